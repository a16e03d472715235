/** Promises 28 to 33: see, out, known, corks, chance, tried. */
public final class SeenTest {
    private static final String TWO = "man m 3;man n 7;";
    private static final int ALL = 1023;

    public static void main(String[] args) {
        see();
        out();
        known();
        strikes();
        corks();
        corksFromTheText();
        chance();
        chanceDrawsOn();
        tried();
        triedWrong();
        Due.end();
    }

    private static TemperCellar two() {
        return Due.told(TWO + "bottle a m n 0 10 3;bottle b n m 1 20 5;thunder 100;");
    }

    private static void see() {
        TemperCellar x = two();
        Due.due("years 0", x.see(0, 0, true), -1);
        Due.due("years 61", x.see(61, 0, true), -1);
        Due.due("no such bottle", x.see(1, 2, true), -1);
        Due.due("bottle -1", x.see(1, -1, true), -1);
        Due.due("none so far", x.count(12), 0);
        for (int i = 0; i < 24; i++) {
            Due.due("see " + i, x.see(i % 2 == 0 ? 1 : 60, i % 2, i % 2 == 1), i);
        }
        Due.due("a 25th", x.see(1, 0, true), -1);
        Due.due("a 25th that strikes", x.out(0), -1);
        Due.due("SEEN", x.count(12), 24);
        Due.due("without bottles", new TemperCellar().see(1, 0, true), -1);
    }

    private static void out() {
        TemperCellar x = two();
        Due.due("none to strike", x.out(0), -1);
        Due.due("see", x.see(1, 0, true), 0);
        Due.due("out -1", x.out(-1), -1);
        Due.due("not oneself", x.out(1), -1);
        Due.due("out", x.out(0), 1);
        Due.due("twice", x.out(0), 2);
        Due.due("what strikes", x.out(1), 3);
        Due.due("SEEN", x.count(12), 4);
        for (int i = 4; i < 24; i++) {
            Due.due("out", x.out(i - 1), i);
        }
        Due.due("a 25th", x.out(0), -1);
    }

    private static void known() {
        TemperCellar x = two();
        Due.due("by none of none", x.known(0), true);
        Due.due("by one of none", x.known(1), false);
        Due.due("by all", x.known(-1), true);
        Due.due("known(-2)", x.known(-2), false);
        x.see(1, 0, true);
        Due.due("all, also those to come", x.count(13), 1);
        Due.due("by one", x.known(1), true);
        x.see(1, 0, true);
        Due.due("by one from now on", x.count(13), 1);
        Due.due("no such n", x.known(3), false);
        Due.due("which changes nothing", x.count(13), 1);
        Due.due("by none", x.known(0), true);
        Due.due("by none", x.count(13), 0);
        Due.due("by two", x.known(2), true);
        Due.due("by two", x.count(13), 2);
        Due.due("by all", x.known(-1), true);
        x.see(1, 0, true);
        Due.due("by all", x.count(13), 3);
    }

    /** a is off behind 3 years, if its CORK is 3 at most. */
    private static void strikes() {
        TemperCellar x = two();
        x.see(3, 0, true);
        Due.due("CORK 3 at most", x.corks(0), 15);
        x.out(0);
        Due.due("struck", x.corks(0), ALL);
        x.out(1);
        Due.due("what strikes is struck", x.corks(0), 15);
        x.out(2);
        Due.due("what strikes that is struck", x.corks(0), ALL);
        x.known(1);
        Due.due("by the first", x.corks(0), 15);
        x.known(2);
        Due.due("by the first two", x.corks(0), ALL);
        x.known(3);
        Due.due("by the first three", x.corks(0), 15);
        x.known(4);
        Due.due("by all four", x.corks(0), ALL);
        x.see(2, 0, false);
        Due.due("by four of five", x.corks(0), ALL);
        x.known(-1);
        Due.due("by all five", x.corks(0), ALL & ~7);
        x.out(3);
        Due.due("by all six", x.corks(0), 8);
        x.out(4);
        Due.due("by all seven", x.corks(0), 15);
    }

    private static void corks() {
        TemperCellar x = two();
        Due.due("nothing seen", x.corks(0), ALL);
        Due.due("no such bottle", x.corks(2), -1);
        Due.due("bottle -1", x.corks(-1), -1);
        x.see(1, 1, true);
        Due.due("of another one, that its own cork forbids", x.corks(0), 0);
        Due.due("of itself", x.corks(1), 3);
        x.see(60, 1, true);
        Due.due("of itself", x.corks(1), 3);
        x.see(1, 0, true);
        Due.due("the other one is not so by its own", x.corks(1), 0);
        x = two();
        x.see(5, 1, true);
        x.see(4, 1, false);
        Due.due("that is so anyhow", x.corks(0), ALL);
        Due.due("just its own", x.corks(1), 32);
        x.see(9, 0, false);
        Due.due("CORK 9 is off by then", x.corks(0), 0);
        x = Due.told(TWO + "bottle a m n 0 10 3;bottle b n m 0 20 9;thunder 49;law burst cork=9;");
        x.see(1, 1, true);
        Due.due("by what sets it off", x.corks(0), 1);
        Due.due("CORK 0 goes off without thunder", x.corks(1), 1);
    }

    /** What was SEEN is told from the TEXT on, whatever was done since. */
    private static void corksFromTheText() {
        TemperCellar x = Due.told(TWO + "bottle a m n 0 10 3;bottle b n m 0 20 7;thunder 60;need n 5 0 199;");
        x.go(2);
        x.rack(1, 4);
        x.open(0);
        x.see(3, 0, true);
        Due.due("as if nothing was done", x.corks(0), 15);
        x.see(6, 1, false);
        Due.due("b is opened in year 5, if it lasts: CORK 7 at least", x.corks(1), 0x380);
        Due.due("see, by a", x.corks(0), 15);
    }

    private static void chance() {
        TemperCellar x = Due.told(TWO + "bottle a m n 0 10 1;bottle b n m 1 20 1;thunder 50;");
        Due.due("0 more are always off", x.chance(0, 1, 0), 10);
        Due.due("3 more never", x.chance(0, 99, 3), 0);
        Due.due("2 in 99 years", x.chance(1, 99, 2), 10);
        Due.due("seed -1", x.chance(-1, 1, 0), -1);
        Due.due("n 0", x.chance(0, 0, 0), -1);
        Due.due("n 100", x.chance(0, 100, 0), -1);
        Due.due("off -1", x.chance(0, 1, -1), -1);
        Due.due("off 11", x.chance(0, 1, 11), -1);
        Due.due("off 10", x.chance(Integer.MAX_VALUE, 1, 10), 0);
        x = Due.told(TWO + "bottle a m n 0 10 1;thunder 100;");
        Due.due("thunder 100 draws none", x.chance(5, 1, 1), 10);
        x.go(1);
        Due.due("more than now", x.chance(5, 9, 1), 0);
        x = Due.told(TWO + "bottle a m n 0 10 1;thunder 0;");
        Due.due("thunder 0 draws none", x.chance(5, 99, 1), 0);
    }

    /** Ten times of one number each, then of two: each time goes on where the one ahead of it ended. */
    private static void chanceDrawsOn() {
        for (int odds = 1; odds < 100; odds += 7) {
            long last = 77;
            int one = 0;
            int two = 0;
            for (int i = 0; i < 10; i++) {
                last = (last * 1103515245 + 12345) % 2147483648L;
                one += last / 65536 % 100 < odds ? 1 : 0;
            }
            TemperCellar x = Due.told(TWO + "bottle a m n 0 10 1;thunder " + odds + ";seed 9;");
            Due.due("chance(77, 1, 1) by " + odds, x.chance(77, 1, 1), one);
            last = 77;
            for (int i = 0; i < 10; i++) {
                boolean any = false;
                for (int year = 0; year < 2; year++) {
                    last = (last * 1103515245 + 12345) % 2147483648L;
                    any |= last / 65536 % 100 < odds;
                }
                two += any ? 1 : 0;
            }
            Due.due("chance(77, 2, 1) by " + odds, x.chance(77, 2, 1), two);
        }
    }

    private static void tries(TemperCellar x, int n, int... want) {
        int[] asked = {0, 1, 3, 4, 5};
        for (int i = 0; i < asked.length; i++) {
            Due.due("tried(" + asked[i] + ", 0, " + n + ")", x.tried(asked[i], 0, n), want[i]);
        }
    }

    private static void tried() {
        TemperCellar x = Due.told(TWO + "bottle a m n 0 10 1;bottle b n m 0 20 3;bottle c n m 0 30 4;bottle d m n 1 1 1;"
                + "need m 0 21 21;thunder 50;");
        tries(x, 0, 0, 0, 0, 0, 0);
        tries(x, 1, 3, 0, 2, 3, 0);
        tries(x, 9, 4, 0, 3, 4, 3);
        Due.due("without a: b is opened", x.tried(2, 0, 1), 1);
        Due.due("without b", x.tried(2, 1, 1), 2);
        Due.due("without d", x.tried(2, 3, 1), 2);
        Due.due("without c", x.tried(2, 2, 9), 3);
        x.open(2);
        Due.due("without one that isn't lying", x.tried(2, 2, 1), 3);
        x = Due.told(TWO + "bottle a m n 0 10 1;bottle b n m 1 20 5;thunder 100;");
        x.go(1);
        Due.due("one is off now", x.count(7), 1);
        Due.due("one more", x.tried(0, 0, 9), 1);
        Due.due("without the one that is off", x.tried(2, 0, 9), 1);
        Due.due("without the other", x.tried(2, 1, 9), 0);
        x = Due.told(TWO + "bottle a m n 0 10 9;thunder 100;law creep force-10;law ages 5;");
        Due.due("creep by strength", x.tried(0, 0, 3), 1);
        Due.due("nothing ages", x.tried(4, 0, 99), 0);
        x = Due.told(TWO + "bottle a m n 0 10 1;bottle b m n 0 10 9;thunder 100;law burst load;");
        Due.due("a goes off, b too", x.tried(0, 0, 1), 2);
        Due.due("load without b", x.tried(2, 1, 1), 1);
        x = Due.told(TWO + "bottle a m n 0 10 1;bottle b m n 0 10 3;bottle c m n 0 10 9;thunder 100;law burst load=2;");
        Due.due("b by load", x.tried(0, 0, 1), 2);
        Due.due("load is 1 without c", x.tried(2, 2, 1), 1);
    }

    private static void triedWrong() {
        TemperCellar x = two();
        Due.due("what 6", x.tried(6, 0, 1), -1);
        Due.due("what -1", x.tried(-1, 0, 1), -1);
        Due.due("n 100", x.tried(0, 0, 100), -1);
        Due.due("n -1", x.tried(0, 0, -1), -1);
        Due.due("n 99", x.tried(0, 0, 99), 2);
        for (int what : new int[] {0, 1, 3, 4, 5}) {
            Due.due("i 1 of " + what, x.tried(what, 1, 1), -1);
        }
        Due.due("no such bottle", x.tried(2, 2, 1), -1);
        Due.due("bottle -1", x.tried(2, -1, 1), -1);
        Due.due("bottle 1", x.tried(2, 1, 99), 1);
        Due.due("no bottle 0", new TemperCellar().tried(2, 0, 1), -1);
    }
}
