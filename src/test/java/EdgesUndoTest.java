import java.math.BigInteger;
import java.util.ArrayDeque;

/** The edges that part 4, promises 34 to 37 and 'What it is' name: what can be undone, images, counts, 512 calls. */
public final class EdgesUndoTest {
    private static final String TWO = "man m 3;man n 7;";
    private static final int[] FAR = {Integer.MIN_VALUE, Integer.MAX_VALUE};

    public static void main(String[] args) {
        undoNone();
        undoEachKind();
        undoAfterRefused();
        undoUpTo20();
        undoUpTo20OfAll();
        undoSinceYear();
        undoThenAnew();
        undoBehindBack();
        backWithoutImage();
        imageInPlace();
        imageStaysBehindBack();
        imageAndText();
        imageKeepsAll();
        imageAnd9900();
        countEdges();
        countAtMost();
        calls512();
        calls512OfDeeds();
        Due.end();
    }

    private static TemperCellar three() {
        return Due.told(TWO + "man o 0;bottle a m n 0 10 9;bottle b n o 1 20 9;bottle c o m 2 30 9;thunder 100;law burst load;");
    }

    /** "how many are left; NONE: none." */
    private static void undoNone() {
        TemperCellar x = new TemperCellar();
        Due.due("of a new object", x.undo(), -1);
        Due.due("still", x.undo(), -1);
        x = three();
        Due.due("of a text", x.undo(), -1);
        x.open(0);
        Due.due("none left", x.undo(), 0);
        Due.due("none", x.undo(), -1);
        Due.due("count(14)", x.count(14), 0);
    }

    /** "Racking, sealing, opening by call can be undone, the latest first" */
    private static void undoEachKind() {
        TemperCellar x = three();
        x.go(3);
        for (int bin = 1; bin <= 5; bin++) {
            x.rack(0, bin);
            Due.due("racking", x.undo(), 0);
            Due.due("BIN", x.bottle(0, 2), 0);
            Due.due("load", x.law(2, 0), 1);
        }
        x.seal(0);
        Due.due("sealing", x.undo(), 0);
        Due.due("CORK", x.bottle(0, 4), 6);
        x.open(0);
        Due.due("opening", x.undo(), 0);
        Due.due("LYING", x.bottle(0, 5), 0);
        Due.due("load", x.law(2, 0), 1);
        Due.due("STRENGTH", x.bottle(0, 3), 13);
        x.rack(0, 1);
        x.seal(0);
        x.open(0);
        x.rack(1, 0);
        Due.due("four", x.count(14), 4);
        Due.due("the latest: b is racked back", x.undo() * 10 + x.bottle(1, 2), 31);
        Due.due("then a is LYING", x.undo() * 10 + x.bottle(0, 5), 20);
        Due.due("then its CORK is 6", x.undo() * 10 + x.bottle(0, 4), 16);
        Due.due("then it is in BIN 0", x.undo() * 10 + x.bottle(0, 2), 0);
    }

    private static void undoAfterRefused() {
        TemperCellar x = three();
        x.rack(0, 3);
        x.rack(0, 3);
        x.rack(0, 6);
        x.rack(3, 0);
        x.seal(0);
        x.seal(3);
        x.open(-1);
        x.open(3);
        x.go(-1);
        x.go(100);
        x.back();
        x.text(1);
        Due.due("one alone", x.count(14), 1);
        Due.due("undone", x.undo(), 0);
        Due.due("BIN", x.bottle(0, 2), 0);
    }

    /** "(20 at most)" */
    private static void undoUpTo20() {
        for (int deeds : new int[] {19, 20, 21, 22, 40, 41}) {
            TemperCellar x = three();
            for (int i = 1; i <= deeds; i++) {
                x.rack(0, i % 6);
                Due.due("after " + i, x.count(14), Math.min(i, 20));
            }
            for (int left = Math.min(deeds, 20) - 1; left >= 0; left--) {
                Due.due("undo", x.undo(), left);
            }
            Due.due("no more", x.undo(), -1);
            Due.due("the first of " + deeds + " stay done", x.bottle(0, 2), Math.max(0, deeds - 20) % 6);
        }
    }

    private static void undoUpTo20OfAll() {
        TemperCellar x = three();
        x.go(1);
        x.open(2);
        x.seal(1);
        for (int i = 1; i <= 19; i++) {
            x.rack(0, i % 2);
        }
        Due.due("21 deeds", x.count(14), 20);
        for (int left = 19; left >= 0; left--) {
            Due.due("undo", x.undo(), left);
        }
        Due.due("no more", x.undo(), -1);
        Due.due("BIN", x.bottle(0, 2), 0);
        Due.due("sealing was the twentieth", x.bottle(1, 4), 8);
        Due.due("opening was one too many", x.bottle(2, 5), 1);
    }

    /** "if no YEAR went by since" */
    private static void undoSinceYear() {
        TemperCellar x = three();
        x.rack(0, 1);
        Due.due("go(0)", x.go(0), 0);
        Due.due("go(-1)", x.go(-1), -1);
        Due.due("go(100)", x.go(100), -1);
        Due.due("no YEAR", x.count(14), 1);
        Due.due("go(1)", x.go(1), 1);
        Due.due("a YEAR", x.count(14), 0);
        Due.due("undo", x.undo(), -1);
        Due.due("BIN stays", x.bottle(0, 2), 1);
        x.rack(0, 2);
        Due.due("what was done since", x.undo(), 0);
        Due.due("BIN", x.bottle(0, 2), 1);
        Due.due("nothing more", x.undo(), -1);
        x.ahead(99, 0, 0);
        x.rack(0, 2);
        x.chance(0, 99, 0);
        x.firstOff(0);
        x.racking(60, 4);
        Due.due("years that are only looked at are none", x.count(14), 1);
    }

    private static void undoThenAnew() {
        TemperCellar x = three();
        x.rack(0, 1);
        x.rack(0, 2);
        x.undo();
        Due.due("anew", x.rack(0, 2), true);
        x.open(0);
        Due.due("three", x.count(14), 3);
        x.undo();
        x.undo();
        Due.due("one left", x.count(14) * 10 + x.bottle(0, 2), 11);
    }

    /** "(nothing to undo then)" */
    private static void undoBehindBack() {
        TemperCellar x = three();
        x.rack(0, 1);
        Due.due("keep", x.keep(), 0);
        Due.due("keeping leaves what can be undone", x.count(14), 1);
        Due.due("undone behind keeping", x.undo(), 0);
        Due.due("BIN", x.bottle(0, 2), 0);
        x.open(2);
        Due.due("back", x.back(), 0);
        Due.due("BIN as kept", x.bottle(0, 2), 1);
        Due.due("LYING as kept", x.bottle(2, 5), 0);
        Due.due("nothing to undo", x.undo(), -1);
        Due.due("count(14)", x.count(14), 0);
    }

    /** "NONE: there is none." */
    private static void backWithoutImage() {
        TemperCellar x = new TemperCellar();
        Due.due("of a new object", x.back(), -1);
        x = three();
        x.go(2);
        x.open(0);
        Due.due("of a text", x.back(), -1);
        Due.due("YEAR stays", x.count(4), 2);
        Due.due("OPENED stays", x.bottle(0, 5), 1);
        Due.due("what can be undone stays", x.count(14), 1);
    }

    /** "An IMAGE is kept (in place of one ahead)" */
    private static void imageInPlace() {
        TemperCellar x = three();
        Due.due("keep in 0", x.keep(), 0);
        x.go(2);
        Due.due("keep in 2", x.keep(), 2);
        x.go(3);
        Due.due("back to 2", x.back(), 2);
        Due.due("STRENGTH", x.bottle(0, 3), 12);
        Due.due("back to 2 again", x.back(), 2);
        x.go(99);
        Due.due("back to 2 again", x.back(), 2);
        Due.due("CORK", x.bottle(0, 4), 7);
    }

    /** What is done behind back() doesn't touch the IMAGE. */
    private static void imageStaysBehindBack() {
        TemperCellar x = three();
        x.keep();
        x.back();
        x.rack(0, 5);
        x.open(1);
        x.go(2);
        x.seal(0);
        Due.due("back", x.back(), 0);
        Due.due("BIN", x.bottle(0, 2), 0);
        Due.due("LYING", x.count(5), 3);
        Due.due("CORK", x.bottle(0, 4), 9);
        Due.due("load", x.law(2, 0), 1);
    }

    /** "no IMAGE .. then" of text(); "all stays" with a FAULT */
    private static void imageAndText() {
        TemperCellar x = three();
        x.go(1);
        x.keep();
        x.go(1);
        Due.due("a fault", Due.tell(x, "man"), -1);
        Due.due("text(-1)", x.text(-1), -2);
        Due.due("the IMAGE stays", x.back(), 1);
        Due.due("a text", Due.tell(x, "man m 0;"), 1);
        Due.due("no IMAGE", x.back(), -1);
        Due.due("YEAR 0", x.count(4), 0);
        x.keep();
        Due.due("text(0)", x.text(0), 0);
        Due.due("no IMAGE", x.back(), -1);
    }

    /** "An IMAGE keeps all but what was SEEN." */
    private static void imageKeepsAll() {
        TemperCellar x = Due.told(TWO + "man o 0;bottle a m n 0 10 9;bottle b n o 1 20 3;bottle c o m 2 30 9;thunder 37;seed 5;"
                + "need m 0 31 31;need n 1 99 99;need o 5 0 199;law burst hated;");
        x.rack(0, 2);
        x.go(2);
        x.see(1, 0, true);
        x.keep();
        int[] counts = new int[12];
        for (int what = 0; what < 12; what++) {
            counts[what] = x.count(what);
        }
        int chance = x.chance(9, 20, 1);
        x.see(1, 0, false);
        x.go(30);
        x.open(0);
        Due.due("back", x.back(), 2);
        for (int what = 0; what < 12; what++) {
            Due.due("count(" + what + ")", x.count(what), counts[what]);
        }
        Due.due("SEEN stays", x.count(12), 2);
        Due.due("what can be undone", x.count(14), 0);
        Due.due("BIN", x.bottle(0, 2), 2);
        Due.due("OPENED by m", x.bottle(2, 6), 0);
        Due.due("m HATES m", x.man(0, 3), 1);
        Due.due("hated", x.law(2, 0), 0);
        Due.due("needs", x.need(0, 4) * 100 + x.need(1, 4) * 10 + x.need(2, 4), 199);
        Due.due("chance", x.chance(9, 20, 1), chance);
    }

    private static void imageAnd9900() {
        TemperCellar x = new TemperCellar();
        for (int i = 0; i < 100; i++) {
            x.go(99);
        }
        Due.due("9900", x.keep(), 9900);
        Due.due("no more", x.go(1), -1);
        Due.due("back", x.back(), 9900);
        Due.due("no more", x.go(1), -1);
        Due.due("a new text", x.text(0), 0);
        Due.due("from 0 on", x.go(1), 1);
    }

    /** "NONE for another what." */
    private static void countEdges() {
        TemperCellar x = new TemperCellar();
        for (int what = 0; what <= 14; what++) {
            Due.due("count(" + what + ") of a new object", x.count(what), 0);
        }
        for (int what : new int[] {-1, 15, FAR[0], FAR[1]}) {
            Due.due("count(" + what + ")", x.count(what), -1);
        }
    }

    private static void countAtMost() {
        StringBuilder text = new StringBuilder("man m 0;man n 0;man o 0;man p 0;man q 0;");
        for (int i = 0; i < 10; i++) {
            text.append("bottle b").append((char) ('a' + i)).append(" m ").append((char) ('n' + i % 4)).append(" 0 9 9;");
        }
        for (int i = 0; i < 8; i++) {
            text.append("need ").append((char) ('n' + i % 4)).append(" 0 0 199;");
        }
        TemperCellar x = Due.told(text + "thunder 100;law ages not " + "1+".repeat(31) + "1;");
        int[] told = {5, 10, 8, 64, 0, 10, 0, 0, 0, 0, 0, 0, 0, 0, 0};
        for (int what = 0; what <= 14; what++) {
            Due.due("count(" + what + ")", x.count(what), told[what]);
        }
        x.go(9);
        for (int i = 0; i < 24; i++) {
            x.see(1, 9, true);
        }
        int[] later = {5, 10, 8, 64, 9, 0, 8, 2, 8, 0, 9, 4, 24, 24, 0};
        for (int what = 0; what <= 14; what++) {
            Due.due("count(" + what + ") later", x.count(what), later[what]);
        }
    }

    /** "An object is used for at most 512 calls after it has been made" */
    private static void calls512() {
        TemperCellar x = new TemperCellar();
        Due.due("feed", x.feed(0x7468756e, 0x64657220, 0x33373b73, 0x65656420, 0x393b2020), 20);
        Due.due("text", x.text(20), 2);
        BigInteger last = BigInteger.valueOf(9);
        int thunders = 0;
        for (int year = 1; year <= 255; year++) {
            last = last.multiply(BigInteger.valueOf(1103515245)).add(BigInteger.valueOf(12345)).mod(BigInteger.TWO.pow(31));
            thunders += last.intValue() / 65536 % 100 < 37 ? 1 : 0;
            Due.due("go(1)", x.go(1), year);
            Due.due("THUNDERS", x.count(10), thunders);
        }
    }

    /** Nearly all calls are deeds, of which every third is undone: the 512th is answered as the first. */
    private static void calls512OfDeeds() {
        String text = TWO + "bottle a m n 0 10 9;";
        TemperCellar x = Due.told(text);
        int calls = (text.length() + 19) / 20 + 1;
        ArrayDeque<Integer> before = new ArrayDeque<>();
        int bin = 0;
        for (; calls < 511; calls++) {
            if (calls % 3 == 0 && !before.isEmpty()) {
                bin = before.pop();
                Due.due("undo, call " + calls, x.undo(), before.size());
            } else {
                before.push(bin);
                bin = (bin + 1 + calls % 5) % 6;
                Due.due("rack, call " + calls, x.rack(0, bin), true);
                if (before.size() > 20) {
                    before.removeLast();
                }
            }
        }
        Due.due("BIN, call 512", x.bottle(0, 2), bin);
    }
}
