/** The edges that part 3 and promises 28 to 31 name: how much is SEEN, of when, STRUCK by what, KNOWN by how many. */
public final class EdgesSeenTest {
    private static final String TWO = "man m 3;man n 7;";
    private static final int ALL = 1023;
    private static final int[] FAR = {Integer.MIN_VALUE, Integer.MAX_VALUE};

    public static void main(String[] args) {
        seeNumbers();
        seeUpTo24();
        outUpTo24();
        outOneAhead();
        knownNumbers();
        knownToCome();
        knownByTheFirst();
        struckByOneOfThese();
        askedFromTheLastOn();
        allStrikeTheFirst();
        corksNumbers();
        corksZeroToNine();
        corksAtYear60();
        corksByAllKnown();
        offOrNot();
        nothingDoneByCall();
        refusedStays();
        Due.end();
    }

    private static TemperCellar two() {
        return Due.told(TWO + "bottle a m n 0 10 3;bottle b n m 1 20 5;thunder 50;");
    }

    /** "behind so many YEARS 1 .. 60"; "NONE: no such ones" */
    private static void seeNumbers() {
        TemperCellar x = two();
        for (int years : new int[] {-1, 0, 61, FAR[0], FAR[1]}) {
            Due.due("see(" + years + ", 0, true)", x.see(years, 0, true), -1);
        }
        for (int bottle : new int[] {-1, 2, FAR[0], FAR[1]}) {
            Due.due("see(1, " + bottle + ", true)", x.see(1, bottle, true), -1);
        }
        Due.due("nothing is SEEN", x.count(12), 0);
        Due.due("see(1, 0, false)", x.see(1, 0, false), 0);
        Due.due("see(60, 1, true)", x.see(60, 1, true), 1);
        Due.due("two are", x.count(12), 2);
        Due.due("see of a new object", new TemperCellar().see(1, 0, true), -1);
    }

    /** "SEEN, at most 24, numbered from 0 on" */
    private static void seeUpTo24() {
        TemperCellar x = two();
        for (int i = 0; i < 24; i++) {
            Due.due("the number", x.see(60, 0, true), i);
            Due.due("SEEN", x.count(12), i + 1);
        }
        Due.due("a 25th", x.see(60, 0, false), -1);
        Due.due("a 25th that strikes", x.out(23), -1);
        Due.due("SEEN", x.count(12), 24);
        Due.due("the 25th isn't one", x.corks(0), ALL);
    }

    /** "NONE: no such one, or there are 24." */
    private static void outUpTo24() {
        TemperCellar x = two();
        x.see(3, 0, false);
        Due.due("CORKS above 3", x.corks(0), ALL & ~15);
        for (int i = 1; i < 24; i++) {
            Due.due("out", x.out(0), i);
        }
        Due.due("a 25th", x.out(0), -1);
        Due.due("a 25th", x.out(23), -1);
        Due.due("a 25th", x.see(1, 0, true), -1);
        Due.due("SEEN", x.count(12), 24);
    }

    /** "One may strike one ahead of it" */
    private static void outOneAhead() {
        TemperCellar x = two();
        Due.due("none is ahead", x.out(0), -1);
        Due.due("out(-1)", x.out(-1), -1);
        x.see(1, 0, true);
        Due.due("not itself", x.out(1), -1);
        Due.due("not one to come", x.out(2), -1);
        for (int seen : new int[] {-1, FAR[0], FAR[1]}) {
            Due.due("out(" + seen + ")", x.out(seen), -1);
        }
        Due.due("SEEN", x.count(12), 1);
        Due.due("the one ahead", x.out(0), 1);
        Due.due("one that strikes", x.out(1), 2);
        Due.due("out of a new object", new TemperCellar().out(0), -1);
    }

    /** "KNOWN by n from now on (-1: by all, also those to come): true; false: no such n." */
    private static void knownNumbers() {
        TemperCellar x = two();
        for (int seen = 0; seen <= 24; seen++) {
            if (seen > 0) {
                x.see(1 + seen, 0, true);
            }
            Due.due("known(" + seen + ") of " + seen, x.known(seen), true);
            Due.due("by as many", x.count(13), seen);
            Due.due("known(" + (seen + 1) + ") of " + seen, x.known(seen + 1), false);
            Due.due("by as many still", x.count(13), seen);
        }
        Due.due("known(0)", x.known(0), true);
        Due.due("by none", x.count(13), 0);
        for (int n : new int[] {-2, 25, FAR[0], FAR[1]}) {
            Due.due("known(" + n + ")", x.known(n), false);
            Due.due("by none still", x.count(13), 0);
        }
        Due.due("known(-1)", x.known(-1), true);
        Due.due("by all", x.count(13), 24);
    }

    private static void knownToCome() {
        TemperCellar x = two();
        Due.due("by all at first", x.see(3, 0, true) + x.count(13), 1);
        Due.due("it counts", x.corks(0), 15);
        x.known(1);
        x.see(2, 0, false);
        Due.due("by one", x.count(13), 1);
        Due.due("the other one doesn't count", x.corks(0), 15);
        x.known(-1);
        Due.due("both count", x.corks(0), 8);
        x.see(3, 0, false);
        Due.due("so does one to come", x.corks(0), 0);
        x.known(0);
        Due.due("none counts", x.corks(0), ALL);
    }

    /** "KNOWN by n (all at first): the first n" */
    private static void knownByTheFirst() {
        TemperCellar x = two();
        for (int years = 1; years <= 8; years++) {
            x.see(years, 0, false);
        }
        for (int n = 0; n <= 8; n++) {
            x.known(n);
            Due.due("not OFF behind " + n + " years: CORK above that", x.corks(0), ALL & ~((2 << n) - 1 - (n == 0 ? 1 : 0)));
        }
    }

    /** "that aren't STRUCK by one of these" */
    private static void struckByOneOfThese() {
        TemperCellar x = two();
        x.see(3, 0, true);
        x.see(3, 0, false);
        x.out(0);
        x.out(1);
        int[] want = {ALL, 15, 0, ALL & ~15, ALL};
        for (int n = 0; n <= 4; n++) {
            x.known(n);
            Due.due("KNOWN by " + n, x.corks(0), want[n]);
        }
    }

    /** "what strikes may be STRUCK: then it doesn't count; asked from the last one on" */
    private static void askedFromTheLastOn() {
        TemperCellar x = two();
        x.see(3, 0, true);
        for (int i = 1; i < 24; i++) {
            x.out(i - 1);
            Due.due("a chain of " + i, x.corks(0), i % 2 == 1 ? ALL : 15);
        }
        for (int n = 24; n >= 1; n--) {
            x.known(n);
            Due.due("the first " + n + " of it", x.corks(0), n % 2 == 0 ? ALL : 15);
        }
    }

    private static void allStrikeTheFirst() {
        TemperCellar x = two();
        x.see(3, 0, true);
        x.out(0);
        x.out(0);
        Due.due("struck twice", x.corks(0), ALL);
        x.out(1);
        Due.due("one of both is struck", x.corks(0), ALL);
        x.out(2);
        Due.due("both are", x.corks(0), 15);
        x.out(3);
        Due.due("one of both counts again", x.corks(0), ALL);
    }

    private static void corksNumbers() {
        TemperCellar x = two();
        Due.due("corks(0)", x.corks(0), ALL);
        Due.due("corks(1)", x.corks(1), ALL);
        for (int bottle : new int[] {-1, 2, FAR[0], FAR[1]}) {
            Due.due("corks(" + bottle + ")", x.corks(bottle), -1);
        }
        Due.due("corks of a new object", new TemperCellar().corks(0), -1);
    }

    /** "CORKS of a BOTTLE: 0 .. 9 (bits) that it may have, in place of its own" */
    private static void corksZeroToNine() {
        for (int cork = 0; cork <= 9; cork++) {
            TemperCellar x = two();
            if (cork > 0) {
                x.see(Math.max(cork, 1), 0, true);
            }
            if (cork > 1) {
                x.see(cork - 1, 0, false);
            }
            Due.due("OFF in year " + cork, x.corks(0), cork == 0 ? ALL : cork == 1 ? 3 : 1 << cork);
        }
        TemperCellar x = Due.told(TWO + "bottle a m n 0 10 3;");
        x.see(1, 0, true);
        Due.due("without thunder CORK 0 alone goes OFF", x.corks(0), 1);
        x = two();
        x.see(9, 0, false);
        Due.due("none lasts nine years", x.corks(0), 0);
        x = two();
        x.see(8, 0, false);
        Due.due("CORK 9 lasts eight", x.corks(0), 512);
    }

    private static void corksAtYear60() {
        String text = TWO + "bottle a m n 0 10 9;thunder 50;law creep 3*(year=";
        TemperCellar x = Due.told(text + "59);");
        x.see(60, 0, true);
        Due.due("OFF behind 60", x.corks(0), 15);
        x = Due.told(text + "59);");
        x.see(59, 0, true);
        Due.due("not OFF behind 59, but CORK 0", x.corks(0), 1);
        x = Due.told(text + "60);");
        x.see(60, 0, true);
        Due.due("the year behind is none of it", x.corks(0), 1);
        x = Due.told(text + "0);");
        x.see(1, 0, true);
        Due.due("OFF behind 1", x.corks(0), 15);
    }

    /** "by which all KNOWN ones are so" */
    private static void corksByAllKnown() {
        TemperCellar x = two();
        x.see(5, 1, true);
        Due.due("of b, by its own CORK", x.corks(0), ALL);
        x.see(4, 1, true);
        Due.due("of b, against its own CORK", x.corks(0), 0);
        Due.due("b's", x.corks(1), 31);
        x.see(3, 0, true);
        Due.due("a is so by its own", x.corks(1), 31);
        x.see(2, 0, true);
        Due.due("a isn't", x.corks(1), 0);
        x = Due.told(TWO + "bottle a m n 0 10 3;bottle b n m 0 20 3;thunder 50;law creep bin=9;");
        x.see(1, 1, true);
        Due.due("CORK 3 isn't set off, whatever a's", x.corks(0), 0);
        x = Due.told(TWO + "bottle a m n 0 10 3;bottle b n m 0 20 2;thunder 50;law creep bin=9;");
        x.see(1, 1, true);
        Due.due("CORK 2 is, by a of CORK 0", x.corks(0), 1);
    }

    /** "a BOTTLE was OFF, or wasn't" */
    private static void offOrNot() {
        TemperCellar x = Due.told(TWO + "bottle a m n 0 10 3;thunder 50;need n 1 12 12;");
        x.see(2, 0, false);
        Due.due("LYING or OPENED is not OFF", x.corks(0), ALL & ~7);
        x.see(60, 0, false);
        Due.due("OPENED in year 1, it never goes OFF", x.corks(0), ALL & ~7);
        x.see(60, 0, true);
        Due.due("so none is both", x.corks(0), 0);
    }

    /** "as it goes from the TEXT on, nothing done by call" */
    private static void nothingDoneByCall() {
        TemperCellar x = two();
        x.see(3, 0, true);
        x.rack(0, 1);
        x.go(1);
        x.seal(0);
        x.open(0);
        x.keep();
        x.go(50);
        x.back();
        Due.due("corks", x.corks(0), 15);
        x.see(2, 0, false);
        Due.due("corks", x.corks(0), 8);
        Due.due("what is now stays", x.bottle(0, 5), 1);
    }

    private static void refusedStays() {
        TemperCellar x = two();
        x.see(3, 0, true);
        x.out(0);
        x.known(1);
        x.see(61, 0, false);
        x.see(1, 2, false);
        x.out(2);
        x.out(-1);
        x.known(3);
        x.known(-2);
        Due.due("SEEN", x.count(12), 2);
        Due.due("KNOWN", x.count(13), 1);
        Due.due("corks", x.corks(0), 15);
        x.known(2);
        Due.due("corks", x.corks(0), ALL);
    }
}
