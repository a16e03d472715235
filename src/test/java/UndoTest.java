/** Promises 34 to 37: undo, keep, back, count. */
public final class UndoTest {
    private static final String THREE = "man m 3;man n 7;man o 0;";

    public static void main(String[] args) {
        undo();
        undoTwenty();
        undoTwentyOfAllKinds();
        undoYears();
        keepAndBack();
        numbersGoBack();
        seenStays();
        count();
        Due.end();
    }

    private static TemperCellar three() {
        return Due.told(THREE + "bottle a m n 0 10 9;bottle b n o 1 20 9;bottle c o n 2 30 9;thunder 100;law burst load;");
    }

    private static void undo() {
        TemperCellar x = three();
        Due.due("none", x.undo(), -1);
        x.go(1);
        x.rack(0, 1);
        x.rack(0, 2);
        x.seal(0);
        x.open(0);
        Due.due("what can be undone", x.count(14), 4);
        Due.due("chain of c", x.chain(2), 4);
        Due.due("opening undone", x.undo(), 3);
        Due.due("it is lying", x.bottle(0, 5), 0);
        Due.due("in the bin where it was", x.bin(2), 5);
        Due.due("chain of c", x.chain(2), 5);
        Due.due("sealing undone", x.undo(), 2);
        Due.due("CORK", x.bottle(0, 4), 8);
        Due.due("racking undone", x.undo(), 1);
        Due.due("bin(1)", x.bin(1), 3);
        Due.due("load", x.law(2, 1), 2);
        Due.due("racking undone", x.undo(), 0);
        Due.due("bin(0)", x.bin(0), 1);
        Due.due("load", x.law(2, 1), 1);
        Due.due("none", x.undo(), -1);
        Due.due("what failed isn't counted", (x.rack(0, 0) ? 1 : 0) + x.count(14), 0);
    }

    private static void undoTwenty() {
        TemperCellar x = three();
        for (int i = 1; i <= 25; i++) {
            x.rack(0, i % 2 == 0 ? 0 : i % 5 + 1);
            Due.due("20 at most", x.count(14), Math.min(i, 20));
        }
        for (int left = 19; left >= 0; left--) {
            Due.due("undo", x.undo(), left);
        }
        Due.due("no more", x.undo(), -1);
        Due.due("the first five stay done", x.bottle(0, 2), 1);
    }

    /** 27 deeds, of which the first seven can't be undone any more. */
    private static void undoTwentyOfAllKinds() {
        TemperCellar x = three();
        x.go(1);
        for (int round = 1; round <= 8; round++) {
            x.rack(1, round % 2 == 0 ? 1 : 3);
            x.rack(2, round % 2 == 0 ? 2 : 4);
            x.rack(0, round % 2 == 0 ? 0 : 5);
        }
        x.seal(0);
        x.seal(2);
        x.open(1);
        Due.due("20 at most", x.count(14), 20);
        int[][] bins = {{0, 1, 2}, {0, 1, 2}, {0, 1, 2}, {5, 1, 2}, {5, 1, 4}, {5, 3, 4}, {0, 3, 4}, {0, 3, 2}};
        for (int i = 0; i < bins.length; i++) {
            Due.due("undo", x.undo(), 19 - i);
            for (int bottle = 0; bottle < 3; bottle++) {
                Due.due("BIN of " + bottle + " behind " + (i + 1), x.bottle(bottle, 2), bins[i][bottle]);
            }
            Due.due("b is lying", x.bottle(1, 5), 0);
            Due.due("CORK of c", x.bottle(2, 4), i == 0 ? 9 : 8);
            Due.due("CORK of a", x.bottle(0, 4), i <= 1 ? 9 : 8);
        }
        for (int left = 11; left >= 0; left--) {
            Due.due("undo", x.undo(), left);
        }
        Due.due("no more", x.undo(), -1);
        Due.due("a, racked last in round 2", x.bottle(0, 2), 0);
        Due.due("b, racked last in round 3", x.bottle(1, 2), 3);
        Due.due("c, racked last in round 2", x.bottle(2, 2), 2);
    }

    private static void undoYears() {
        TemperCellar x = three();
        x.open(1);
        Due.due("go(0)", x.go(0), 0);
        Due.due("no year went by", x.count(14), 1);
        Due.due("go(-1)", x.go(-1), -1);
        Due.due("no year went by", x.count(14), 1);
        Due.due("keep", x.keep(), 0);
        Due.due("keeping leaves it", x.count(14), 1);
        Due.due("go(1)", x.go(1), 1);
        Due.due("a year went by", x.undo(), -1);
        Due.due("it stays opened", x.bottle(1, 5), 1);
        x.open(0);
        Due.due("what was done since", x.undo(), 0);
    }

    private static void keepAndBack() {
        TemperCellar x = Due.told(THREE + "bottle a m n 0 10 9;bottle b n o 1 20 2;bottle c o n 2 30 9;thunder 100;"
                + "need m 0 31 31;need m 2 99 99;");
        Due.due("no image", x.back(), -1);
        x.rack(0, 3);
        Due.due("no image leaves what can be undone", x.back() + x.count(14), 0);
        Due.due("keep", x.keep(), 0);
        x.rack(0, 4);
        x.go(3);
        Due.due("year", x.count(4), 3);
        Due.due("m hates n", x.man(0, 3), 2);
        x.open(0);
        Due.due("back", x.back(), 0);
        Due.due("nothing to undo", x.undo(), -1);
        int[] want = {0, 1, 3, 10, 9, 0, -1};
        for (int what = 0; what < want.length; what++) {
            Due.due("bottle(0, " + what + ")", x.bottle(0, what), want[what]);
        }
        Due.due("b is lying", x.bottle(1, 5), 0);
        Due.due("c was opened by nobody", x.bottle(2, 6), -1);
        Due.due("nobody hates", x.count(11), 0);
        Due.due("no need has come", x.need(0, 4) + x.need(1, 4), -2);
        Due.due("no thunder", x.count(10), 0);
        Due.due("MET and UNMET", x.count(8) + x.count(9), 0);
        x.go(1);
        Due.due("back again", x.back(), 0);
        x.go(2);
        Due.due("keep in place of it", x.keep(), 2);
        x.go(5);
        Due.due("back", x.back(), 2);
        Due.due("m hates n", x.man(0, 3), 2);
        Due.due("c was opened by m", x.bottle(2, 6), 0);
        Due.due("b is off", x.bottle(1, 5), 2);
        Due.due("the first need was met by another's", x.need(0, 4), 2);
        Due.due("thunders", x.count(10), 2);
    }

    private static void numbersGoBack() {
        TemperCellar x = Due.told("thunder 37;seed 5;");
        x.go(3);
        x.keep();
        int[] thunders = new int[30];
        for (int i = 0; i < thunders.length; i++) {
            x.go(1);
            thunders[i] = x.count(10);
        }
        x.back();
        for (int i = 0; i < thunders.length; i++) {
            x.go(1);
            Due.due("thunders behind " + (i + 4) + " years", x.count(10), thunders[i]);
        }
    }

    private static void seenStays() {
        TemperCellar x = three();
        x.see(1, 0, true);
        x.keep();
        x.see(2, 0, true);
        x.out(0);
        x.back();
        Due.due("SEEN stays", x.count(12), 3);
        Due.due("and what it says", x.corks(0), 7);
        x.known(1);
        x.back();
        Due.due("by how many it is known stays", x.count(13), 1);
    }

    private static void count() {
        TemperCellar x = Due.told(THREE + "bottle a m n 0 10 2;bottle b n o 1 20 9;bottle c o n 2 30 9;"
                + "bottle d o n 3 30 9;thunder 100;need m 0 31 31;need m 2 99 99;need n 1 0 199;need o 50 0 0;"
                + "law ages 1+0;law creep not 0;");
        int[] told = {3, 4, 4, 5, 0, 4, 0, 0, 0, 0, 0, 0, 0, 0, 0};
        counts(x, told);
        x.go(4);
        x.rack(3, 0);
        x.see(1, 0, false);
        x.see(1, 0, false);
        x.known(1);
        int[] later = {3, 4, 4, 5, 4, 1, 2, 1, 2, 1, 4, 1, 2, 1, 1};
        counts(x, later);
        Due.due("count(15)", x.count(15), -1);
        Due.due("count(-1)", x.count(-1), -1);
        Due.due("count(MIN)", x.count(Integer.MIN_VALUE), -1);
    }

    private static void counts(TemperCellar x, int[] want) {
        for (int what = 0; what < want.length; what++) {
            Due.due("count(" + what + ")", x.count(what), want[what]);
        }
    }
}
