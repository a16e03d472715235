import java.nio.charset.StandardCharsets;

/** What the tests share: telling a text, comparing answers, and the end of a test. */
final class Due {
    private static int wrong = 0;
    private static int asked = 0;

    private Due() {
    }

    static void due(String call, long got, long want) {
        asked++;
        if (got != want) {
            wrong++;
            System.out.println(call + " answered " + got + ", due is " + want);
        }
    }

    static void due(String call, boolean got, boolean want) {
        due(call, got ? 1 : 0, want ? 1 : 0);
    }

    /** Feeds the text, with blanks behind it up to a multiple of twenty, and reads just the text. */
    static int tell(TemperCellar x, String text) {
        byte[] bytes = text.getBytes(StandardCharsets.ISO_8859_1);
        feed(x, bytes);
        return x.text(bytes.length);
    }

    static void feed(TemperCellar x, byte[] bytes) {
        for (int i = 0; i < bytes.length; i += 20) {
            x.feed(number(bytes, i), number(bytes, i + 4), number(bytes, i + 8), number(bytes, i + 12),
                    number(bytes, i + 16));
        }
    }

    static int number(byte[] bytes, int from) {
        int number = 0;
        for (int i = from; i < from + 4; i++) {
            number = number << 8 | (i < bytes.length ? bytes[i] & 255 : 32);
        }
        return number;
    }

    static TemperCellar told(String text) {
        TemperCellar x = new TemperCellar();
        int lines = tell(x, text);
        if (lines == TemperCellar.NONE) {
            due("fault of a text that should have none: " + text, x.fault(0), 0);
        }
        return x;
    }

    static void fault(String text, int fault, int place) {
        TemperCellar x = new TemperCellar();
        due("text: " + text, tell(x, text), TemperCellar.NONE);
        due("fault(0) of " + text, x.fault(0), fault);
        due("fault(1) of " + text, x.fault(1), place);
    }

    static int letters(String name) {
        int letters = 0;
        for (int i = 0; i < 6; i++) {
            letters = letters << 5 | (i < name.length() ? name.charAt(i) - 'a' + 1 : 0);
        }
        return letters;
    }

    static void end() {
        System.out.println(asked - wrong + " answers as due, " + wrong + " not");
        if (wrong != 0 || asked == 0) {
            System.exit(1);
        }
    }
}
