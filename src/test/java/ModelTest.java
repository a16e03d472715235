import java.nio.charset.StandardCharsets;
import java.util.NoSuchElementException;
import java.util.Random;

/** Runs of calls drawn from fixed seeds, answered by the class and by the model: all promises, wrong inputs too. */
public final class ModelTest {
    private static final int RUNS = 800;
    /** The document promises nothing behind them. */
    private static final int MOST_CALLS = 512;
    /** More than a text takes (drawn ones can be longer than the TAPE), its FAULT, a change and all counts behind it. */
    private static final int MOST_CALLS_AT_ONCE = 72;
    private static final String[] NAMES = {"force", "cork", "hated", "bin", "hot", "load", "year"};
    private static final String[] SIGNS = {"+", "-", "*", "/", "<", "<=", "=", "<>", ">=", ">", " and ", " or "};

    private final Random random;
    private final TemperCellar x = new TemperCellar();
    private final Model m = new Model();
    private final StringBuilder run = new StringBuilder();
    private int calls = 0;
    private int wrong = 0;

    private ModelTest(long seed) {
        random = new Random(seed);
    }

    public static void main(String[] args) {
        int wrong = 0;
        for (int seed = 0; seed < RUNS && wrong < 5; seed++) {
            ModelTest test = new ModelTest(seed);
            while (test.calls + MOST_CALLS_AT_ONCE <= MOST_CALLS && test.wrong == 0) {
                test.callOne();
            }
            wrong += test.wrong;
        }
        Due.due("wrong runs", wrong, 0);
        Due.end();
    }

    private int upTo(int most) {
        return random.nextInt(most + 1);
    }

    /** Mostly inside 0 .. most, now and then at or beyond an edge. */
    private int near(int most) {
        return switch (upTo(19)) {
            case 0 -> -1;
            case 1 -> most + 1;
            case 2 -> most;
            case 3 -> upTo(3) == 0 ? random.nextInt() : 0;
            default -> upTo(most);
        };
    }

    private String expression(int depth) {
        int kind = upTo(depth <= 0 ? 1 : 6);
        if (kind == 0) {
            return "" + (upTo(3) == 0 ? upTo(9999) : upTo(12));
        }
        if (kind == 1) {
            return NAMES[upTo(NAMES.length - 1)];
        }
        if (kind == 2) {
            return "(not " + expression(depth - 1) + ")";
        }
        String inner = expression(depth - 1) + SIGNS[upTo(SIGNS.length - 1)] + expression(depth - 1);
        return upTo(2) == 0 ? inner : "(" + inner + ")";
    }

    private String drawText() {
        StringBuilder text = new StringBuilder();
        int people = 2 + upTo(3);
        for (int i = 0; i < people; i++) {
            text.append("man ").append((char) ('p' + i)).append(' ').append(upTo(9)).append(';');
        }
        int bottles = upTo(10);
        int bins = upTo(5);
        int corks = 1 + upTo(8);
        for (int i = 0; i < bottles; i++) {
            int whose = upTo(people - 1);
            int atWhom = (whose + 1 + upTo(people - 2)) % people;
            text.append("bottle ").append((char) ('b' + i)).append(' ').append((char) ('p' + whose)).append(' ')
                    .append((char) ('p' + atWhom)).append(' ').append(upTo(bins)).append(' ').append(1 + upTo(98))
                    .append(' ').append(1 + upTo(corks - 1)).append(upTo(1) == 0 ? ";" : " ;\n");
        }
        int needs = upTo(8);
        for (int i = 0; i < needs; i++) {
            int from = upTo(120);
            text.append("need ").append((char) ('p' + upTo(people - 1))).append(' ').append(upTo(12)).append(' ')
                    .append(from).append(' ').append(from + upTo(70)).append(';');
        }
        if (upTo(4) > 0) {
            text.append("thunder ").append(upTo(2) == 0 ? 100 * upTo(1) : upTo(100)).append(';');
        }
        if (upTo(1) == 0) {
            text.append("seed ").append(upTo(99999)).append(';');
        }
        for (String rule : new String[] {"ages", "creep", "burst"}) {
            if (upTo(1) == 0) {
                text.append("law ").append(rule).append(' ').append(expression(upTo(4))).append(';');
            }
        }
        return text.toString();
    }

    /** One byte or more changed, put in, or taken out. */
    private String spoil(String text) {
        String bytes = "aeimnostr0159;()+-*/<=> \n$\u00e9\t";
        StringBuilder spoilt = new StringBuilder(text);
        for (int times = upTo(2); times >= 0 && spoilt.length() > 0; times--) {
            int at = upTo(spoilt.length() - 1);
            switch (upTo(3)) {
                case 0 -> spoilt.setCharAt(at, bytes.charAt(upTo(bytes.length() - 1)));
                case 1 -> spoilt.insert(at, bytes.charAt(upTo(bytes.length() - 1)));
                case 2 -> spoilt.deleteCharAt(at);
                default -> spoilt.setLength(at);
            }
        }
        return spoilt.toString();
    }

    private void tell(String text) {
        byte[] bytes = text.getBytes(StandardCharsets.ISO_8859_1);
        for (int i = 0; i < bytes.length; i += 20) {
            int a = Due.number(bytes, i);
            int b = Due.number(bytes, i + 4);
            int c = Due.number(bytes, i + 8);
            int d = Due.number(bytes, i + 12);
            int e = Due.number(bytes, i + 16);
            same("feed(..)", x.feed(a, b, c, d, e), m.feed(a, b, c, d, e));
        }
        int n = upTo(30) == 0 ? near(bytes.length) : bytes.length;
        same("text(" + n + ") of " + text, x.text(n), m.text(n));
        same("fault(0)", x.fault(0), m.fault(0));
        same("fault(1)", x.fault(1), m.fault(1));
    }

    private void same(String call, long got, long want) {
        calls++;
        run.append(call).append(" -> ").append(got).append('\n');
        if (got != want && wrong == 0) {
            wrong = 1;
            System.out.println(run);
            System.out.println("the last one should have been " + want);
        }
    }

    private void callOne() {
        if (run.length() == 0 || upTo(40) == 0) {
            String text = drawText();
            tell(upTo(4) == 0 ? spoil(text) : text);
        }
        switch (upTo(9)) {
            case 0, 1, 2 -> change();
            case 3, 4, 5 -> askNow();
            case 6, 7 -> askAhead();
            case 8 -> askSeen();
            default -> askPuzzle();
        }
    }

    private void change() {
        int b = near(9);
        switch (upTo(9)) {
            case 0, 1 -> {
                int bin = near(5);
                same("rack(" + b + ", " + bin + ")", x.rack(b, bin) ? 1 : 0, m.rack(b, bin) ? 1 : 0);
            }
            case 2, 3 -> same("seal(" + b + ")", x.seal(b), m.seal(b));
            case 4 -> same("open(" + b + ")", x.open(b), m.open(b));
            case 5 -> {
                int n = upTo(8) == 0 ? near(99) : upTo(2);
                same("go(" + n + ")", x.go(n), m.go(n));
            }
            case 6, 7 -> same("undo()", x.undo(), m.undo());
            case 8 -> same("keep()", x.keep(), m.keep());
            default -> same("back()", x.back(), m.back());
        }
        for (int what = 4; what <= 14; what++) {
            same("count(" + what + ")", x.count(what), m.count(what));
        }
    }

    private static long answer(TemperCellar x, int b, int what) {
        try {
            return x.bottle(b, what);
        } catch (IndexOutOfBoundsException e) {
            return -101;
        } catch (NoSuchElementException e) {
            return -102;
        }
    }

    private static long answer(Model m, int b, int what) {
        try {
            return m.bottle(b, what);
        } catch (IndexOutOfBoundsException e) {
            return -101;
        } catch (NoSuchElementException e) {
            return -102;
        }
    }

    private void askNow() {
        int b = near(9);
        int p = near(4);
        int what = near(6);
        switch (upTo(6)) {
            case 0, 1 -> same("bottle(" + b + ", " + what + ")", answer(x, b, what), answer(m, b, what));
            case 2 -> same("man(" + p + ", " + what + ")", x.man(p, what), m.man(p, what));
            case 3 -> same("need(" + b + ", " + what + ")", x.need(b, what), m.need(b, what));
            case 4 -> same("bin(" + what + ")", x.bin(what), m.bin(what));
            case 5 -> {
                int law = near(2);
                same("law(" + law + ", " + b + ")", x.law(law, b), m.law(law, b));
            }
            default -> {
                int letters = upTo(9) == 0 ? random.nextInt() : ('b' + upTo(20) - 'a' + 1) << 25;
                int kind = near(1);
                same("named(" + kind + ", " + letters + ")", x.named(kind, letters), m.named(kind, letters));
                same("count(" + what + ")", x.count(what), m.count(what));
            }
        }
    }

    private void askAhead() {
        int b = near(9);
        int n = upTo(3) == 0 ? near(99) : upTo(12);
        switch (upTo(6)) {
            case 0, 1 -> {
                int what = near(4);
                same("ahead(" + n + ", " + what + ", " + b + ")", x.ahead(n, what, b), m.ahead(n, what, b));
            }
            case 2 -> {
                int what = near(1);
                same("firstOff(" + what + ")", x.firstOff(what), m.firstOff(what));
            }
            case 3 -> same("chain(" + b + ")", x.chain(b), m.chain(b));
            case 4 -> {
                int what = near(5);
                int i = what == 2 ? b : upTo(9) == 0 ? b : 0;
                same("tried(" + what + ", " + i + ", " + n + ")", x.tried(what, i, n), m.tried(what, i, n));
            }
            case 5 -> {
                int seed = upTo(9) == 0 ? random.nextInt() : random.nextInt(Integer.MAX_VALUE);
                int off = near(10);
                same("chance(" + seed + ", " + n + ", " + off + ")", x.chance(seed, n, off), m.chance(seed, n, off));
            }
            default -> {
                if (upTo(4) == 0) {
                    int years = upTo(3) == 0 ? near(60) : upTo(6);
                    int what = near(4);
                    same("racking(" + years + ", " + what + ")", x.racking(years, what), m.racking(years, what));
                }
            }
        }
    }

    private void askSeen() {
        int b = near(9);
        int i = near(23);
        switch (upTo(5)) {
            case 0, 1 -> {
                int years = upTo(3) == 0 ? near(60) : 1 + upTo(9);
                boolean off = upTo(1) == 0;
                same("see(" + years + ", " + b + ", " + off + ")", x.see(years, b, off), m.see(years, b, off));
            }
            case 2 -> {
                int seen = upTo(1) == 0 ? i : upTo(Math.max(0, m.count(12) - 1));
                same("out(" + seen + ")", x.out(seen), m.out(seen));
            }
            case 3 -> {
                int n = upTo(2) - 1 + upTo(Math.max(0, m.count(12)));
                same("known(" + n + ")", x.known(n) ? 1 : 0, m.known(n) ? 1 : 0);
            }
            default -> same("corks(" + b + ")", x.corks(b), m.corks(b));
        }
    }

    private void askPuzzle() {
        int b = near(9);
        int p = near(4);
        int q = near(4);
        switch (upTo(8)) {
            case 0 -> same("serve(" + b + ")", x.serve(b), m.serve(b));
            case 1 -> same("served()", x.served(), m.served());
            case 2 -> {
                int from = near(199);
                int to = upTo(5) == 0 ? near(199) : from + upTo(6);
                same("pour(" + from + ", " + to + ")", x.pour(from, to), m.pour(from, to));
            }
            case 3 -> {
                int strength = near(199);
                same("ripe(" + b + ", " + strength + ")", x.ripe(b, strength), m.ripe(b, strength));
            }
            case 4 -> {
                int what = near(1);
                same("dowry(" + p + ", " + what + ")", x.dowry(p, what), m.dowry(p, what));
            }
            case 5 -> same("ring()", x.ring(), m.ring());
            case 6 -> same("rests(" + p + ", " + q + ")", x.rests(p, q), m.rests(p, q));
            case 7 -> {
                int k = near(3);
                same("rest(" + p + ", " + q + ", " + k + ")", x.rest(p, q, k), m.rest(p, q, k));
            }
            default -> {
                int n = near(5);
                int what = near(1);
                same("lasts(" + b + ", " + n + ", " + what + ")", x.lasts(b, n, what), m.lasts(b, n, what));
            }
        }
    }
}
