import java.util.ArrayList;
import java.util.List;
import java.util.NoSuchElementException;

/**
 * Two objects made alike, of which one is called: where the document says that all stays, no later answer tells them
 * apart.
 */
final class Twins {
    interface Way {
        TemperCellar make();
    }

    interface Call {
        long on(TemperCellar x);
    }

    static final long NO_BOTTLE = -100;
    static final long NO_WHAT = -200;

    private Twins() {
    }

    static void stays(String name, Way way, Call call, long want) {
        TemperCellar called = way.make();
        Due.due(name, call.on(called), want);
        TemperCellar other = way.make();
        same(name + " leaves all", answers(called, true), answers(other, true));
    }

    /** A text with a FAULT takes the TAPE and leaves its FAULT; all else stays. */
    static void staysButFault(String name, Way way, Call call, long want) {
        TemperCellar called = way.make();
        Due.due(name, call.on(called), want);
        TemperCellar other = way.make();
        same(name + " leaves all but the fault", answers(called, false), answers(other, false));
    }

    /** Two ways that lead to the same. */
    static void alike(String name, Way one, Way other) {
        same(name, answers(one.make(), true), answers(other.make(), true));
    }

    private static void same(String name, List<Long> got, List<Long> want) {
        int at = 0;
        while (at < got.size() && at < want.size() && got.get(at).equals(want.get(at))) {
            at++;
        }
        Due.due(name + ": answers up to the first that differs", at, Math.max(got.size(), want.size()));
    }

    static long bottle(TemperCellar x, int bottle, int what) {
        try {
            return x.bottle(bottle, what);
        } catch (IndexOutOfBoundsException e) {
            return NO_BOTTLE;
        } catch (NoSuchElementException e) {
            return NO_WHAT;
        }
    }

    /** All that can be asked, then what is undone, what years bring, what the image and the tape hold. */
    private static List<Long> answers(TemperCellar x, boolean withFault) {
        List<Long> row = new ArrayList<>();
        if (withFault) {
            row.add((long) x.fault(0));
            row.add((long) x.fault(1));
        }
        addLaws(x, row);
        addAll(x, row);
        while (x.count(14) > 0 && row.size() < 1000) {
            row.add((long) x.undo());
        }
        addAll(x, row);
        row.add((long) x.go(2));
        row.add((long) x.count(10));
        row.add((long) x.back());
        addAll(x, row);
        row.add(x.known(-1) ? 1L : 0L);
        addCorks(x, row);
        row.add((long) x.go(3));
        row.add((long) x.count(10));
        row.add((long) x.feed(0x6d616e20, 0x6120373b, 0x20202020, 0x20202020, 0x20202020));
        row.add((long) x.text(20));
        row.add((long) x.man(0, 0));
        return row;
    }

    private static void addAll(TemperCellar x, List<Long> row) {
        for (int what = 0; what <= 14; what++) {
            row.add((long) x.count(what));
        }
        for (int bottle = 0; bottle < x.count(1); bottle++) {
            for (int what = 2; what <= 6; what++) {
                row.add((long) x.bottle(bottle, what));
            }
        }
        for (int man = 0; man < x.count(0); man++) {
            row.add((long) x.man(man, 3));
        }
        for (int need = 0; need < x.count(2); need++) {
            row.add((long) x.need(need, 4));
        }
    }

    private static void addLaws(TemperCellar x, List<Long> row) {
        for (int bottle = 0; bottle < x.count(1); bottle++) {
            row.add((long) x.bottle(bottle, 0));
            row.add((long) x.bottle(bottle, 1));
            for (int what = 0; what <= 2; what++) {
                row.add(x.law(what, bottle));
            }
        }
        for (int man = 0; man < x.count(0); man++) {
            row.add((long) x.man(man, 0));
        }
        for (int bin = 0; bin <= 5; bin++) {
            row.add((long) x.bin(bin));
        }
        row.add((long) x.chance(3, 9, 1));
        addCorks(x, row);
    }

    private static void addCorks(TemperCellar x, List<Long> row) {
        for (int bottle = 0; bottle < x.count(1); bottle++) {
            row.add((long) x.corks(bottle));
        }
    }
}
