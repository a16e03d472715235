/** Promises 15 to 18: ahead, firstOff, chain, racking. */
public final class AheadTest {
    private static final String THREE = "man m 3;man n 7;man o 0;";

    public static void main(String[] args) {
        ahead();
        aheadAsItGoes();
        aheadLeavesAll();
        firstOff();
        chain();
        racking();
        rackingFew();
        Due.end();
    }

    private static void ahead() {
        TemperCellar x = Due.told(THREE + "bottle a m n 0 10 2;bottle b n o 0 20 9;bottle c o n 1 30 9;thunder 100;"
                + "need m 0 30 40;need n 2 22 30;need o 1 99 99;need m 3 0 199;");
        int[][] want = {{0, 0, 0, 0, 10}, {0, 1, 0, 1, 11}, {1, 1, 1, 1, 12}, {1, 2, 1, 1, 12}, {1, 2, 2, 1, 12}};
        for (int n = 0; n < want.length; n++) {
            for (int what = 0; what <= 4; what++) {
                Due.due("ahead(" + n + ", " + what + ", 0)", x.ahead(n, what, 0), want[n][what]);
            }
        }
        Due.due("what was opened keeps its strength", x.ahead(99, 4, 2), 31);
        Due.due("ahead(99, 0, ..)", x.ahead(99, 0, -7), 1);
        Due.due("the bottle isn't looked at", x.ahead(1, 1, 77), 1);
        Due.due("no such bottle", x.ahead(1, 4, 3), -1);
        Due.due("bottle -1", x.ahead(1, 4, -1), -1);
        Due.due("n -1", x.ahead(-1, 0, 0), -1);
        Due.due("n 100", x.ahead(100, 0, 0), -1);
        Due.due("what 5", x.ahead(1, 5, 0), -1);
        Due.due("what -1", x.ahead(1, -1, 0), -1);
        x.go(1);
        Due.due("more from now on: MET", x.ahead(3, 1, 0), 1);
        Due.due("more from now on: HATED", x.ahead(3, 3, 0), 0);
        Due.due("more from now on: UNMET", x.ahead(3, 2, 0), 2);
        x.go(1);
        Due.due("more from now on: OFF", x.ahead(9, 0, 0), 0);
    }

    private static void aheadAsItGoes() {
        String bottles = THREE + "bottle a m n 0 10 1;thunder ";
        Due.due("thunder 49", Due.told(bottles + "49;").ahead(99, 0, 0), 0);
        Due.due("thunder 50", Due.told(bottles + "50;").ahead(1, 0, 0), 1);
        Due.due("thunder 0", Due.told(bottles + "0;").ahead(99, 0, 0), 0);
        Due.due("thunder 100", Due.told(bottles + "100;").ahead(1, 0, 0), 1);
    }

    /** What is only asked changes neither the cellar nor the numbers to come. */
    private static void aheadLeavesAll() {
        String text = THREE + "bottle a m n 0 10 9;bottle b n o 0 20 9;need o 1 11 50;thunder 60;seed 3;";
        TemperCellar x = Due.told(text);
        TemperCellar y = Due.told(text);
        x.ahead(50, 0, 0);
        x.firstOff(0);
        x.chain(0);
        x.racking(9, 4);
        x.ripe(0, 60);
        x.chance(7, 30, 1);
        x.tried(2, 0, 20);
        x.tried(5, 0, 20);
        x.served();
        x.see(3, 0, true);
        x.corks(0);
        for (int year = 0; year < 20; year++) {
            Due.due("go(1)", x.go(1), y.go(1));
            for (int what = 4; what < 12; what++) {
                Due.due("count(" + what + ")", x.count(what), y.count(what));
            }
        }
    }

    private static void firstOff() {
        TemperCellar x = Due.told(THREE + "bottle a m n 0 10 3;bottle b n o 1 20 5;bottle c o n 0 30 4;"
                + "bottle d m n 2 1 3;thunder 50;");
        Due.due("in three years", x.firstOff(0), 3);
        Due.due("a, and c by it, and d", x.firstOff(1), 13);
        Due.due("what 2", x.firstOff(2), -1);
        Due.due("what -1", x.firstOff(-1), -1);
        x.open(0);
        x.open(3);
        Due.due("then c", x.firstOff(0) * 100 + x.firstOff(1), 404);
        x = Due.told(THREE + "bottle a m n 0 10 1;thunder 50;law creep year=98;");
        Due.due("in 99 years", x.firstOff(0), 99);
        Due.due("it is a", x.firstOff(1), 1);
        x = Due.told(THREE + "bottle a m n 0 10 1;thunder 50;law creep year=99;");
        Due.due("not by then", x.firstOff(0), -2);
        Due.due("not by then", x.firstOff(1), -2);
        x.go(1);
        Due.due("by then", x.firstOff(0), 99);
        x = Due.told(THREE + "bottle a m n 0 10 1;thunder 49;");
        Due.due("not as it goes", x.firstOff(0), -2);
        x = Due.told(THREE + "bottle a m n 0 10 1;bottle b m n 1 10 3;thunder 100;");
        x.go(1);
        Due.due("those that are off already don't count", x.firstOff(0) * 100 + x.firstOff(1), 202);
    }

    private static void chain() {
        TemperCellar x = Due.told(THREE + "bottle a m n 0 10 9;bottle b n o 0 20 2;bottle c o n 0 30 3;"
                + "bottle d m n 1 1 1;");
        Due.due("chain(0)", x.chain(0), 3);
        Due.due("chain(1)", x.chain(1), 2);
        Due.due("chain(2)", x.chain(2), 6);
        Due.due("chain(3)", x.chain(3), 8);
        Due.due("no such bottle", x.chain(4), -1);
        Due.due("bottle -1", x.chain(-1), -1);
        x.open(1);
        Due.due("not lying", x.chain(1), -2);
        Due.due("without the opened one", x.chain(0), 1);
        x = Due.told(THREE + "bottle a m n 0 10 9;bottle b n o 0 20 3;bottle c o n 0 30 4;bottle d m n 0 1 3;"
                + "bottle e m n 0 1 9;law burst (cork=4 and load=4) or (cork=3 and load=3);");
        Due.due("each behind the ones that were set off ahead of it", x.chain(0), 13);
        x = Due.told(THREE + "bottle a m n 0 10 1;bottle b n o 0 20 4;bottle c o n 0 30 3;thunder 100;law burst force<0;");
        x.go(1);
        Due.due("what is off already is none of it", x.chain(1), 2);
    }

    private static void rackings(TemperCellar x, int n, int... want) {
        for (int what = 0; what <= 4; what++) {
            Due.due("racking(" + n + ", " + what + ")", x.racking(n, what), want[what]);
        }
    }

    private static void racking() {
        TemperCellar x = Due.told(THREE + "bottle a m n 0 10 1;bottle b n o 0 20 2;bottle c o n 0 30 3;"
                + "bottle d m n 0 1 3;bottle e n m 1 1 3;thunder 60;");
        rackings(x, 1, 0, 1, 1, 1, 1);
        rackings(x, 2, 0, 0, 1, 1, 2);
        rackings(x, 3, 0, 0, 0, 0, 5);
        Due.due("all stays", x.bin(0), 15);
        Due.due("n 0", x.racking(0, 4), -1);
        Due.due("n 61", x.racking(61, 4), -1);
        Due.due("n 60", x.racking(60, 4), 5);
        Due.due("what 5", x.racking(1, 5), -1);
        Due.due("what -1", x.racking(1, -1), -1);
        x = Due.told(THREE + "bottle a m n 5 10 1;bottle b n o 5 20 1;bottle c o n 5 30 1;thunder 49;");
        Due.due("none go off", x.racking(60, 4), 0);
        Due.due("so each is in the first bin", x.racking(60, 2), 0);
    }

    private static void rackingFew() {
        TemperCellar x = Due.told(THREE + "bottle a m n 0 10 1;bottle b n o 0 20 3;bottle c o n 0 30 3;"
                + "bottle d m n 0 1 9;bottle e n m 4 1 2;bottle f n m 4 1 1;thunder 60;");
        x.open(1);
        Due.due("the opened one is not racked: a", x.racking(1, 0), 0);
        Due.due("c", x.racking(1, 1), 1);
        Due.due("d", x.racking(1, 2), 0);
        Due.due("e, away from f", x.racking(1, 3), 1);
        Due.due("a and f go off", x.racking(1, 4), 2);
        x = Due.told(THREE + "bottle a m n 0 10 1;bottle b n o 0 20 3;thunder 60;");
        rackings(x, 1, 0, 1, -2, -2, 1);
        x.open(0);
        rackings(x, 1, 0, -2, -2, -2, 0);
        x.open(1);
        rackings(x, 1, -2, -2, -2, -2, 0);
        Due.due("no such n comes first", x.racking(0, 0), -1);
    }
}
