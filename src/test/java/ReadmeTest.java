import java.io.IOException;
import java.nio.charset.StandardCharsets;
import java.nio.file.Files;
import java.nio.file.Path;
import java.util.List;

/** README.md tells how to use the class by an example: the calls here are its calls, in its order. */
public final class ReadmeTest {
    private static final String TEXT = "man ada 3;man bea 7;bottle old ada bea 0 40 2;bottle new bea ada 0 10 5;"
            + "need bea 1 30 50;thunder 100;law ages hot;";

    private static List<String> lines;
    private static int next = 0;

    public static void main(String[] args) throws IOException {
        List<String> readme = Files.readAllLines(Path.of("README.md"), StandardCharsets.UTF_8);
        lines = readme.stream().filter(line -> line.startsWith("cellar.")).toList();
        TemperCellar cellar = new TemperCellar();
        Due.due("lines of its text", tell(cellar, TEXT), 7);
        Due.due("README.md tells that text", quoted(readme).equals(TEXT), true);
        answers("cellar.count(1)", cellar.count(1));
        answers("cellar.law(0, 1)", cellar.law(0, 1));
        answers("cellar.firstOff(0)", cellar.firstOff(0));
        answers("cellar.firstOff(1)", cellar.firstOff(1));
        answers("cellar.ahead(2, 2, 0)", cellar.ahead(2, 2, 0));
        answers("cellar.serve(0)", cellar.serve(0));
        answers("cellar.go(1)", cellar.go(1));
        answers("cellar.bottle(0, 4)", cellar.bottle(0, 4));
        answers("cellar.seal(0)", cellar.seal(0));
        answers("cellar.keep()", cellar.keep());
        answers("cellar.go(1)", cellar.go(1));
        answers("cellar.need(0, 4)", cellar.need(0, 4));
        answers("cellar.man(1, 3)", cellar.man(1, 3));
        answers("cellar.back()", cellar.back());
        answers("cellar.need(0, 4)", cellar.need(0, 4));
        answers("cellar.undo()", cellar.undo());
        Due.due("calls in README.md", lines.size(), next);
        Due.end();
    }

    /** As README.md has it. */
    private static int tell(TemperCellar cellar, String text) {
        byte[] bytes = java.util.Arrays.copyOf(text.getBytes(java.nio.charset.StandardCharsets.ISO_8859_1),
                (text.length() + 19) / 20 * 20);
        java.nio.IntBuffer n = java.nio.ByteBuffer.wrap(bytes).asIntBuffer();
        while (n.hasRemaining()) {
            cellar.feed(n.get(), n.get(), n.get(), n.get(), n.get());
        }
        return cellar.text(text.length());
    }

    /** What stands in quotes from the line that tells the example's text to the end of that statement. */
    private static String quoted(List<String> readme) {
        StringBuilder text = new StringBuilder();
        boolean isTelling = false;
        for (String line : readme) {
            isTelling |= line.startsWith("tell(cellar, ");
            if (isTelling) {
                text.append(line, line.indexOf('"') + 1, line.lastIndexOf('"'));
            }
            if (isTelling && line.contains("\");")) {
                return text.toString();
            }
        }
        return text.toString();
    }

    private static void answers(String call, long got) {
        String line = next < lines.size() ? lines.get(next) : "";
        next++;
        Due.due("'" + line + "' calls " + call, line.startsWith(call + ";"), true);
        String behind = line.substring(line.indexOf("// ") + 3);
        Due.due(line, got, Long.parseLong(behind.substring(0, behind.indexOf(':'))));
    }
}
