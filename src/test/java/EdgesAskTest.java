/** The edges that part 3 and promises 15 to 27, 32 and 33 name: how far one may look, and of what. */
public final class EdgesAskTest {
    private static final String TWO = "man m 3;man n 7;";
    private static final String THREE = TWO + "man o 0;";
    private static final String FIVE = THREE + "man p 0;man q 0;";
    private static final int[] FAR = {Integer.MIN_VALUE, Integer.MAX_VALUE};

    public static void main(String[] args) {
        aheadNumbers();
        aheadLastYear();
        aheadMore();
        aheadHated();
        firstOffWithin99();
        firstOffThen();
        chainEdges();
        rackingNumbers();
        rackingLastYear();
        rackingFirstFour();
        rackingFirstOfSeveral();
        serveEdges();
        serveFits();
        serveFirstOfSeveral();
        serveHasCome();
        pourNumbers();
        pourCut();
        pourPairs();
        ripeNumbers();
        ripeWithin99();
        ripeLying();
        dowryEdges();
        dowryLeastBits();
        ringEdges();
        restsEdges();
        restsCut();
        lastsEdges();
        lastsCork();
        chanceNumbers();
        chanceAtLeast();
        chanceLastYear();
        triedNumbers();
        triedLastYear();
        triedOtherwise();
        emptyCellar();
        fullCellar();
        Due.end();
    }

    private static String bottles(int count, String rest) {
        StringBuilder text = new StringBuilder();
        for (int i = 0; i < count; i++) {
            text.append("bottle b").append((char) ('a' + i)).append(" m n ").append(rest).append(';');
        }
        return text.toString();
    }

    /** "AHEAD (n 0 .. 99), what 0 OFF, .., 4 STRENGTH of a BOTTLE (else that isn't looked at). NONE: no such ones." */
    private static void aheadNumbers() {
        TemperCellar x = Due.told(TWO + "bottle a m n 0 10 9;bottle b m n 1 20 9;");
        int[] later = {0, 0, 0, 0, 119};
        for (int what = 0; what <= 4; what++) {
            Due.due("ahead(0, " + what + ", 1)", x.ahead(0, what, 1), what == 4 ? 20 : 0);
            Due.due("ahead(99, " + what + ", 1)", x.ahead(99, what, 1), later[what]);
            for (int n : new int[] {-1, 100, FAR[0], FAR[1]}) {
                Due.due("ahead(" + n + ", " + what + ", 1)", x.ahead(n, what, 1), -1);
            }
            for (int bottle : new int[] {-1, 2, FAR[0], FAR[1]}) {
                Due.due("ahead(1, " + what + ", " + bottle + ")", x.ahead(1, what, bottle), what == 4 ? -1 : 0);
            }
        }
        for (int what : new int[] {-1, 5, FAR[0], FAR[1]}) {
            Due.due("ahead(1, " + what + ", 0)", x.ahead(1, what, 0), -1);
        }
    }

    private static void aheadLastYear() {
        TemperCellar x = Due.told(TWO + "bottle a m n 0 10 1;bottle b m n 1 20 9;thunder 50;law creep (year=98)*(bin=0);law ages 0;"
                + "need m 98 20 20;need m 98 99 99;need m 99 99 99;");
        Due.due("OFF in 98", x.ahead(98, 0, 0), 0);
        Due.due("OFF in 99", x.ahead(99, 0, 0), 1);
        Due.due("MET in 98", x.ahead(98, 1, 0), 0);
        Due.due("MET in 99", x.ahead(99, 1, 0), 1);
        Due.due("UNMET in 98", x.ahead(98, 2, 0), 0);
        Due.due("UNMET in 99", x.ahead(99, 2, 0), 1);
        x.go(1);
        Due.due("UNMET in 99 from year 1 on", x.ahead(99, 2, 0), 2);
    }

    /** "how many more are OFF, MET, UNMET" */
    private static void aheadMore() {
        TemperCellar x = Due.told(TWO + "bottle a m n 0 10 1;bottle b m n 1 20 2;bottle c m n 2 30 9;bottle d m n 3 40 9;thunder 100;"
                + "need m 0 31 31;need m 0 99 99;need m 1 42 42;need m 1 99 99;need m 1 98 98;");
        int[] now = {0, 0, 0};
        int[] more = {1, 1, 1};
        int[] later = {2, 2, 3};
        for (int what = 0; what <= 2; what++) {
            Due.due("ahead(0, " + what + ", 0)", x.ahead(0, what, 0), now[what]);
            Due.due("ahead(1, " + what + ", 0)", x.ahead(1, what, 0), more[what]);
            Due.due("ahead(2, " + what + ", 0)", x.ahead(2, what, 0), later[what]);
        }
        x.go(1);
        for (int what = 0; what <= 2; what++) {
            Due.due("ahead(0, " + what + ", 0) a year later", x.ahead(0, what, 0), 0);
            Due.due("ahead(1, " + what + ", 0) a year later", x.ahead(1, what, 0), later[what] - more[what]);
        }
        x.go(1);
        for (int what = 0; what <= 2; what++) {
            Due.due("ahead(5, " + what + ", 0) two years later", x.ahead(5, what, 0), 0);
        }
    }

    /** "HATED (times that somebody comes to hate one not HATED by that one so far)" */
    private static void aheadHated() {
        TemperCellar x = Due.told(THREE + "bottle a m n 0 10 9;bottle b m n 1 20 9;bottle c m o 2 30 9;law ages 0;"
                + "need n 0 10 10;need n 1 20 20;need o 1 30 30;");
        Due.due("in a year", x.ahead(1, 3, 0), 1);
        Due.due("in two: not n again, but o", x.ahead(2, 3, 0), 2);
        x.go(1);
        Due.due("one more: o", x.ahead(1, 3, 0), 1);
    }

    /** "in how many YEARS, 99 at most (1: this one)"; "-2: not by then; NONE for another what." */
    private static void firstOffWithin99() {
        int[] creeps = {0, 1, 97, 98, 99, 100};
        for (int year : creeps) {
            TemperCellar x = Due.told(TWO + "bottle a m n 0 10 1;thunder 50;law creep year=" + year + ";");
            Due.due("firstOff(0) in " + year, x.firstOff(0), year <= 98 ? year + 1 : -2);
            Due.due("firstOff(1) in " + year, x.firstOff(1), year <= 98 ? 1 : -2);
            for (int what : new int[] {-1, 2, FAR[0], FAR[1]}) {
                Due.due("firstOff(" + what + ")", x.firstOff(what), -1);
            }
        }
    }

    private static void firstOffThen() {
        TemperCellar x = Due.told(TWO + "bottle a m n 0 10 1;bottle b m n 1 10 2;bottle c m n 2 10 2;bottle d m n 3 10 3;thunder 50;");
        Due.due("a", x.firstOff(0) * 100 + x.firstOff(1), 101);
        x.open(0);
        Due.due("b and c", x.firstOff(0) * 100 + x.firstOff(1), 206);
        x.open(1);
        x.open(2);
        Due.due("d", x.firstOff(0) * 100 + x.firstOff(1), 308);
        x.open(3);
        Due.due("none is left", x.firstOff(0), -2);
        Due.due("none is left", x.firstOff(1), -2);
    }

    /** "CHAIN of a BOTTLE that is LYING"; "-2: it isn't LYING; NONE: no such BOTTLE." */
    private static void chainEdges() {
        TemperCellar x = Due.told(TWO + "bottle a m n 0 10 9;bottle b m n 1 10 1;bottle c m n 2 10 9;thunder 100;");
        for (int bottle : new int[] {-1, 3, FAR[0], FAR[1]}) {
            Due.due("chain(" + bottle + ")", x.chain(bottle), -1);
        }
        x.go(1);
        x.open(2);
        Due.due("LYING", x.chain(0), 1);
        Due.due("OFF", x.chain(1), -2);
        Due.due("OPENED", x.chain(2), -2);
        x = Due.told(TWO + bottles(10, "0 1 2"));
        for (int bottle = 0; bottle < 10; bottle++) {
            Due.due("all ten by " + bottle, x.chain(bottle), 1023);
        }
        Due.due("chain(10)", x.chain(10), -1);
        Due.due("none is OFF by asking", x.count(7), 0);
    }

    /** "RACK (n 1 .. 60), what 0 .. 3 .. 4 .. NONE: no such ones." */
    private static void rackingNumbers() {
        TemperCellar x = Due.told(TWO + bottles(5, "5 10 9"));
        for (int what = 0; what <= 4; what++) {
            Due.due("racking(1, " + what + ")", x.racking(1, what), 0);
            Due.due("racking(60, " + what + ")", x.racking(60, what), 0);
            for (int n : new int[] {-1, 0, 61, FAR[0], FAR[1]}) {
                Due.due("racking(" + n + ", " + what + ")", x.racking(n, what), -1);
            }
        }
        for (int what : new int[] {-1, 5, FAR[0], FAR[1]}) {
            Due.due("racking(1, " + what + ")", x.racking(1, what), -1);
        }
    }

    private static void rackingLastYear() {
        String text = TWO + "bottle a m n 5 10 1;bottle b m n 5 10 1;thunder 50;law burst 0;law creep year=";
        TemperCellar x = Due.told(text + "59;");
        Due.due("racking(59, 4)", x.racking(59, 4), 0);
        Due.due("racking(60, 4)", x.racking(60, 4), 2);
        x = Due.told(text + "60;");
        Due.due("racking(60, 4)", x.racking(60, 4), 0);
        x.go(1);
        Due.due("racking(59, 4)", x.racking(59, 4), 0);
        Due.due("racking(60, 4)", x.racking(60, 4), 2);
    }

    /** "the first four BOTTLES that are LYING (by numbers), each in a BIN 0 .. 3 now"; "(-2: not so many)" */
    private static void rackingFirstFour() {
        for (int count = 0; count <= 6; count++) {
            TemperCellar x = Due.told(TWO + bottles(count, "5 10 1") + "thunder 50;law creep bin<>0;");
            for (int what = 0; what <= 3; what++) {
                Due.due("racking(1, " + what + ") of " + count, x.racking(1, what), what < count ? 0 : -2);
            }
            Due.due("racking(1, 4) of " + count, x.racking(1, 4), Math.max(0, count - 4));
        }
        TemperCellar x = Due.told(TWO + bottles(10, "0 10 1") + "thunder 50;");
        Due.due("all ten go OFF", x.racking(1, 4), 10);
        Due.due("so each is in the first BIN", x.racking(1, 0) + x.racking(1, 3), 0);
        x = Due.told(TWO + "bottle a m n 0 10 1;thunder 50;law creep bin=0;");
        Due.due("none goes OFF", x.racking(1, 4), 0);
        Due.due("in BIN 1", x.racking(1, 0), 1);
        x = Due.told(TWO + bottles(6, "0 10 1") + "thunder 50;law creep bin<>3;law burst 0;");
        for (int what = 0; what <= 3; what++) {
            Due.due("BIN 3 is the last", x.racking(1, what), 3);
        }
        Due.due("the other two", x.racking(1, 4), 2);
        x = Due.told(TWO + bottles(6, "4 10 1") + "thunder 50;law creep bin<>4;law burst 0;");
        for (int what = 0; what <= 3; what++) {
            Due.due("BIN 4 is none, though they are there", x.racking(1, what), 0);
        }
        Due.due("so four go OFF", x.racking(1, 4), 4);
        x.open(0);
        x.open(3);
        Due.due("those that are LYING, four now", x.racking(1, 4), 4);
        x.open(5);
        Due.due("three", x.racking(1, 4), 3);
        Due.due("not so many", x.racking(1, 3), -2);
    }

    /** "so that fewest are OFF .., of several the first by BOTTLES, BIN by BIN" */
    private static void rackingFirstOfSeveral() {
        TemperCellar x = Due.told(TWO + bottles(4, "0 10 1") + "thunder 50;law creep load>1;");
        int[] apart = {0, 1, 2, 3, 0};
        for (int what = 0; what <= 4; what++) {
            Due.due("each for itself: racking(1, " + what + ")", x.racking(1, what), apart[what]);
        }
        x = Due.told(TWO + bottles(4, "0 10 1") + "thunder 50;law creep load<>2;");
        int[] inPairs = {0, 0, 1, 1, 0};
        for (int what = 0; what <= 4; what++) {
            Due.due("two by two: racking(1, " + what + ")", x.racking(1, what), inPairs[what]);
        }
        x = Due.told(TWO + bottles(3, "0 10 1") + "bottle z m n 1 10 1;bottle y m n 1 10 1;thunder 50;law creep load<>2;law burst 0;");
        int[] withTheFifth = {0, 0, 1, 2, 1};
        for (int what = 0; what <= 4; what++) {
            Due.due("one beside the fifth: racking(1, " + what + ")", x.racking(1, what), withTheFifth[what]);
        }
    }

    /** "NONE: no such NEED, it has come." */
    private static void serveEdges() {
        StringBuilder needs = new StringBuilder();
        for (int i = 0; i < 8; i++) {
            needs.append("need n 5 0 199;");
        }
        TemperCellar x = Due.told(TWO + bottles(10, "0 10 9") + needs);
        Due.due("served", x.served(), 8);
        for (int need = 0; need < 8; need++) {
            Due.due("serve(" + need + ")", x.serve(need), need);
        }
        for (int need : new int[] {-1, 8, FAR[0], FAR[1]}) {
            Due.due("serve(" + need + ")", x.serve(need), -1);
        }
        x = Due.told(TWO + bottles(2, "0 10 9") + "need n 5 0 199;need n 5 0 199;need n 5 0 199;");
        Due.due("served by two", x.served(), 2);
        Due.due("none last", x.serve(0) * 100 + x.serve(1) * 10 + x.serve(2), 8);
    }

    /** "each is served by one BOTTLE that is LYING and fits" */
    private static void serveFits() {
        String[] ranges = {"10 10", "0 10", "10 199", "0 9", "11 199"};
        int[] want = {0, 0, 0, -2, -2};
        for (int i = 0; i < ranges.length; i++) {
            TemperCellar x = Due.told(TWO + "bottle a m n 0 10 9;need n 99 " + ranges[i] + ";");
            Due.due("STRENGTH 10 for " + ranges[i], x.serve(0), want[i]);
            Due.due("served", x.served(), want[i] == 0 ? 1 : 0);
            x.open(0);
            Due.due("OPENED", x.serve(0), -2);
            Due.due("served", x.served(), 0);
        }
    }

    /** "so that most are served, of several the first by NEEDS, each by numbers of BOTTLES, none last" */
    private static void serveFirstOfSeveral() {
        TemperCellar x = Due.told(TWO + "bottle a m n 0 10 9;bottle b m n 0 20 9;need m 5 20 20;need m 5 0 30;need m 5 10 10;");
        Due.due("two of three", x.served(), 2);
        Due.due("the first by b", x.serve(0), 1);
        Due.due("the second by a", x.serve(1), 0);
        Due.due("the third by none", x.serve(2), -2);
        x = Due.told(TWO + "bottle a m n 0 20 9;bottle b m n 0 10 9;need m 5 10 20;need m 5 20 20;");
        Due.due("both", x.served(), 2);
        Due.due("the first by b, though a is first", x.serve(0), 1);
        Due.due("the second by a", x.serve(1), 0);
    }

    /** "of NEEDS that haven't come yet, by the STRENGTHS that there are now" */
    private static void serveHasCome() {
        TemperCellar x = Due.told(TWO + "bottle a m n 0 10 9;need m 0 50 60;need m 1 11 11;need m 1 10 10;");
        Due.due("before: by 10", x.serve(0) * 100 + x.serve(1) * 10 + x.serve(2), -220);
        x.go(1);
        Due.due("the first has come", x.serve(0), -1);
        Due.due("now by 11", x.serve(1), 0);
        Due.due("none by 10", x.serve(2), -2);
        Due.due("served", x.served(), 1);
        x.go(1);
        Due.due("all have come", x.serve(1) + x.serve(2), -2);
        Due.due("served", x.served(), 0);
    }

    /** "POUR (0 .. 199, the second one no less)" */
    private static void pourNumbers() {
        TemperCellar x = Due.told(TWO + "bottle a m n 0 99 9;bottle b m n 0 99 9;law ages 9;");
        Due.due("pour(0, 199)", x.pour(0, 199), 1);
        Due.due("pour(99, 99)", x.pour(99, 99), 1);
        Due.due("pour(100, 199)", x.pour(100, 199), -2);
        Due.due("pour(0, 98)", x.pour(0, 98), -2);
        Due.due("pour(0, 0)", x.pour(0, 0), -2);
        Due.due("pour(199, 199)", x.pour(199, 199), -2);
        Due.due("pour(99, 98)", x.pour(99, 98), -1);
        Due.due("pour(1, 0)", x.pour(1, 0), -1);
        Due.due("pour(-1, 199)", x.pour(-1, 199), -1);
        Due.due("pour(0, 200)", x.pour(0, 200), -1);
        Due.due("pour(-1, -1)", x.pour(-1, -1), -1);
        Due.due("pour(200, 200)", x.pour(200, 200), -1);
        for (int far : FAR) {
            Due.due("pour(0, " + far + ")", x.pour(0, far), -1);
            Due.due("pour(" + far + ", 199)", x.pour(far, 199), -1);
        }
        x.go(12);
        Due.due("199 and 199", x.pour(199, 199), 1);
    }

    /** "whose mean STRENGTH (cut) is so" */
    private static void pourCut() {
        TemperCellar x = Due.told(TWO + "bottle a m n 0 10 9;bottle b m n 0 13 9;");
        Due.due("11", x.pour(11, 11), 1);
        Due.due("12", x.pour(12, 12), -2);
        Due.due("up to 11", x.pour(0, 11), 1);
        Due.due("up to 10", x.pour(0, 10), -2);
        Due.due("from 12", x.pour(12, 199), -2);
        x = Due.told(TWO + "bottle a m n 0 1 9;bottle b m n 0 2 9;");
        Due.due("1", x.pour(1, 1), 1);
        Due.due("0", x.pour(0, 0), -2);
    }

    /** "two that are LYING .., the first pair by numbers" */
    private static void pourPairs() {
        TemperCellar x = Due.told(TWO + bottles(8, "0 1 9") + "bottle y m n 0 98 9;bottle z m n 0 99 9;");
        Due.due("8 and 9", x.pour(98, 98), 89);
        Due.due("0 and 8", x.pour(49, 50), 8);
        Due.due("0 and 9", x.pour(50, 50), 9);
        Due.due("0 and 1", x.pour(0, 199), 1);
        x.open(0);
        Due.due("1 and 2", x.pour(0, 199), 12);
        Due.due("1 and 9", x.pour(50, 50), 19);
        for (int bottle = 1; bottle < 8; bottle++) {
            x.open(bottle);
        }
        Due.due("8 and 9", x.pour(0, 199), 89);
        x.open(8);
        Due.due("not one with itself", x.pour(0, 199), -2);
        x.open(9);
        Due.due("none", x.pour(0, 199), -2);
    }

    /** "RIPE (STRENGTH 0 .. 199); -2: not by then; NONE: no such ones." */
    private static void ripeNumbers() {
        TemperCellar x = Due.told(TWO + "bottle a m n 0 99 9;bottle b m n 0 1 9;law ages 9;");
        Due.due("ripe(0, 0)", x.ripe(0, 0), 0);
        Due.due("ripe(0, 99)", x.ripe(0, 99), 0);
        Due.due("ripe(0, 100)", x.ripe(0, 100), 1);
        Due.due("ripe(0, 108)", x.ripe(0, 108), 1);
        Due.due("ripe(0, 109)", x.ripe(0, 109), 2);
        Due.due("ripe(0, 198)", x.ripe(0, 198), 11);
        Due.due("ripe(0, 199)", x.ripe(0, 199), 12);
        Due.due("ripe(1, 1)", x.ripe(1, 1), 0);
        Due.due("ripe(1, 2)", x.ripe(1, 2), 1);
        for (int strength : new int[] {-1, 200, FAR[0], FAR[1]}) {
            Due.due("ripe(0, " + strength + ")", x.ripe(0, strength), -1);
        }
        for (int bottle : new int[] {-1, 2, FAR[0], FAR[1]}) {
            Due.due("ripe(" + bottle + ", 0)", x.ripe(bottle, 0), -1);
        }
    }

    /** "in how many YEARS as it goes, 99 at most" */
    private static void ripeWithin99() {
        TemperCellar x = Due.told(TWO + "bottle a m n 0 50 9;bottle b m n 0 99 9;");
        Due.due("ripe(0, 148)", x.ripe(0, 148), 98);
        Due.due("ripe(0, 149)", x.ripe(0, 149), 99);
        Due.due("ripe(0, 150)", x.ripe(0, 150), -2);
        Due.due("ripe(1, 198)", x.ripe(1, 198), 99);
        Due.due("ripe(1, 199)", x.ripe(1, 199), -2);
        x.go(1);
        Due.due("ripe(0, 150) a year later", x.ripe(0, 150), 99);
        Due.due("ripe(1, 199) a year later", x.ripe(1, 199), 99);
    }

    /** "it is LYING and so strong at least (0: it is)" */
    private static void ripeLying() {
        TemperCellar x = Due.told(TWO + "bottle a m n 0 10 3;bottle b m n 1 50 9;bottle c m n 2 99 9;thunder 50;need n 4 55 55;law creep bin=0;");
        Due.due("LYING behind two years", x.ripe(0, 12), 2);
        Due.due("OFF behind three", x.ripe(0, 13), -2);
        Due.due("LYING behind four", x.ripe(1, 54), 4);
        Due.due("OPENED behind five", x.ripe(1, 55), -2);
        x.open(2);
        Due.due("OPENED now", x.ripe(2, 0), -2);
    }

    private static void dowryEdges() {
        TemperCellar x = Due.told(FIVE + "bottle a q m 0 10 9;");
        Due.due("dowry(4, 0)", x.dowry(4, 0), 0);
        Due.due("dowry(4, 1)", x.dowry(4, 1), 10);
        Due.due("dowry(0, 0)", x.dowry(0, 0), 0);
        Due.due("dowry(0, 1)", x.dowry(0, 1), 0);
        for (int man : new int[] {-1, 5, FAR[0], FAR[1]}) {
            Due.due("dowry(" + man + ", 0)", x.dowry(man, 0), -1);
            Due.due("dowry(" + man + ", 1)", x.dowry(man, 1), -1);
        }
        for (int what : new int[] {-1, 2, FAR[0], FAR[1]}) {
            Due.due("dowry(4, " + what + ")", x.dowry(4, what), -1);
        }
    }

    /** "the heap (bits) by which both are least unlike in STRENGTH, of several the least bits" */
    private static void dowryLeastBits() {
        TemperCellar x = Due.told(TWO + "bottle a m n 0 10 9;bottle b m n 0 10 9;");
        Due.due("one of two alike", x.dowry(0, 0), 1);
        Due.due("by how much", x.dowry(0, 1), 0);
        x = Due.told(TWO + "bottle a n m 0 1 9;bottle b m n 0 10 9;bottle c m n 0 11 9;");
        Due.due("b alone", x.dowry(0, 0), 2);
        Due.due("by how much", x.dowry(0, 1), 1);
        x = Due.told(TWO + bottles(10, "0 99 9"));
        Due.due("five of ten", x.dowry(0, 0), 31);
        Due.due("by how much", x.dowry(0, 1), 0);
        x.open(0);
        Due.due("four of nine", x.dowry(0, 0), 2 + 4 + 8 + 16);
        Due.due("by how much", x.dowry(0, 1), 99);
    }

    /** "PEOPLE (bits) who, led from each .., come back to themselves" */
    private static void ringEdges() {
        String[] chain = {"m n", "n o", "o p", "p q", "q m"};
        StringBuilder text = new StringBuilder(FIVE);
        for (int i = 0; i < 5; i++) {
            text.append("bottle b").append((char) ('a' + i)).append(' ').append(chain[i]).append(" 0 10 9;");
        }
        TemperCellar x = Due.told(text.toString());
        Due.due("all five", x.ring(), 31);
        x.open(4);
        Due.due("none, when one is missing", x.ring(), 0);
        x = Due.told(FIVE + "bottle a m n 0 10 9;bottle b n m 0 10 9;bottle c o m 0 10 9;bottle d p o 0 10 9;");
        Due.due("those who only lead to a ring are none of it", x.ring(), 3);
        x = Due.told(FIVE + "bottle a m n 0 10 9;bottle b m o 0 11 9;bottle c n m 0 10 9;bottle d o n 0 10 9;");
        Due.due("by the strongest: m, o, n", x.ring(), 7);
        x.open(1);
        Due.due("then m, n", x.ring(), 3);
    }

    /** "NONE: no such PEOPLE, alike."; "-2: there are no so many; NONE likewise, k is below 0." */
    private static void restsEdges() {
        TemperCellar x = Due.told(FIVE + "bottle a m q 0 10 9;bottle b q m 0 10 9;");
        Due.due("rests(0, 4)", x.rests(0, 4), 1);
        Due.due("rest(0, 4, 0)", x.rest(0, 4, 0), 11);
        Due.due("rest(0, 4, 1)", x.rest(0, 4, 1), -2);
        Due.due("rest(0, 4, MAX)", x.rest(0, 4, FAR[1]), -2);
        Due.due("rest(0, 4, -1)", x.rest(0, 4, -1), -1);
        Due.due("rest(0, 4, MIN)", x.rest(0, 4, FAR[0]), -1);
        for (int one = 0; one < 5; one++) {
            Due.due("alike", x.rests(one, one), -1);
            Due.due("alike", x.rest(one, one, 0), -1);
        }
        for (int nobody : new int[] {-1, 5, FAR[0], FAR[1]}) {
            Due.due("rests(" + nobody + ", 0)", x.rests(nobody, 0), -1);
            Due.due("rests(0, " + nobody + ")", x.rests(0, nobody), -1);
            Due.due("rests, both", x.rests(nobody, nobody), -1);
            Due.due("rest(" + nobody + ", 0, 0)", x.rest(nobody, 0, 0), -1);
            Due.due("rest(0, " + nobody + ", 0)", x.rest(0, nobody, 0), -1);
        }
        int[] all = {0, 1, 10, 11};
        for (int k = 0; k < 4; k++) {
            Due.due("of two without: rest " + k, x.rest(1, 2, k), all[k]);
        }
        Due.due("a fifth", x.rest(1, 2, 4), -2);
        Due.due("of two without", x.rests(1, 2), 4);
    }

    /** STRENGTHS of 1 to 4, where what is cut could make KEEP as good as OPEN: A is more than its fourth for all of them. */
    private static void restsCut() {
        for (int one = 1; one <= 4; one++) {
            for (int other = 1; other <= 4; other++) {
                TemperCellar x = Due.told(TWO + "bottle a m n 0 " + one + " 9;bottle b n m 0 " + other + " 9;");
                Due.due("rests of " + one + " and " + other, x.rests(0, 1), 1);
                Due.due("both open", x.rest(0, 1, 0), 11);
                x.open(0);
                Due.due("the first has none: both are alike to it", x.rests(0, 1), 2);
                Due.due("the first keeps", x.rest(0, 1, 0), 1);
                Due.due("the first opens", x.rest(0, 1, 1), 11);
            }
        }
    }

    private static void fraction(TemperCellar x, int n, long above, long below) {
        Due.due("lasts(0, " + n + ", 0)", x.lasts(0, n, 0), above);
        Due.due("lasts(0, " + n + ", 1)", x.lasts(0, n, 1), below);
    }

    /** "LASTS of a BOTTLE for n YEARS 0 .. 5"; "NONE: no such ones, not LYING." */
    private static void lastsEdges() {
        TemperCellar x = Due.told(TWO + "bottle a m n 0 10 1;bottle b m n 1 10 1;thunder 90;");
        long below = 1;
        for (int n = 0; n <= 5; n++) {
            fraction(x, n, 1, below);
            below *= 10;
        }
        for (int n : new int[] {-1, 6, FAR[0], FAR[1]}) {
            Due.due("lasts(0, " + n + ", 0)", x.lasts(0, n, 0), -1);
            Due.due("lasts(0, " + n + ", 1)", x.lasts(0, n, 1), -1);
        }
        for (int what : new int[] {-1, 2, FAR[0], FAR[1]}) {
            Due.due("lasts(0, 1, " + what + ")", x.lasts(0, 1, what), -1);
        }
        for (int bottle : new int[] {-1, 2, FAR[0], FAR[1]}) {
            Due.due("lasts(" + bottle + ", 1, 0)", x.lasts(bottle, 1, 0), -1);
        }
        x.open(1);
        Due.due("OPENED", x.lasts(1, 0, 0), -1);
        x = Due.told(TWO + "bottle a m n 0 10 1;thunder 100;");
        x.go(1);
        Due.due("OFF", x.lasts(0, 0, 0), -1);
    }

    /** "how likely its CORK is above 0 then, if each THUNDER takes 1 (by thunder, whatever the law)" */
    private static void lastsCork() {
        long[] above = {1, 3, 1, 13, 31, 1};
        long[] below = {32, 16, 2, 16, 32, 1};
        for (int cork = 1; cork <= 9; cork++) {
            TemperCellar x = Due.told(TWO + "bottle a m n 0 10 " + cork + ";thunder 50;law creep 3;");
            int at = Math.min(cork, 6) - 1;
            fraction(x, 5, above[at], below[at]);
        }
        for (int cork = 1; cork <= 6; cork++) {
            TemperCellar x = Due.told(TWO + "bottle a m n 0 10 " + cork + ";thunder 100;");
            for (int n = 0; n <= 5; n++) {
                fraction(x, n, n < cork ? 1 : 0, 1);
            }
            x = Due.told(TWO + "bottle a m n 0 10 " + cork + ";thunder 0;");
            fraction(x, 5, 1, 1);
        }
        fraction(Due.told(TWO + "bottle a m n 0 10 1;thunder 1;"), 5, 9509900499L, 10000000000L);
        fraction(Due.told(TWO + "bottle a m n 0 10 5;thunder 99;"), 5, 490099501L, 10000000000L);
    }

    /** "a seed 0 .. 2147483647", "n 1 .. 99", "so many 0 .. 10"; "NONE: no such ones." */
    private static void chanceNumbers() {
        TemperCellar x = Due.told(TWO + bottles(10, "0 10 1") + "thunder 100;");
        for (int seed : new int[] {0, 1, FAR[1]}) {
            Due.due("chance(" + seed + ", 1, 0)", x.chance(seed, 1, 0), 10);
            Due.due("chance(" + seed + ", 1, 10)", x.chance(seed, 1, 10), 10);
            Due.due("chance(" + seed + ", 99, 10)", x.chance(seed, 99, 10), 10);
        }
        for (int seed : new int[] {-1, FAR[0]}) {
            Due.due("chance(" + seed + ", 1, 0)", x.chance(seed, 1, 0), -1);
        }
        for (int n : new int[] {-1, 0, 100, FAR[0], FAR[1]}) {
            Due.due("chance(0, " + n + ", 0)", x.chance(0, n, 0), -1);
        }
        for (int off : new int[] {-1, 11, FAR[0], FAR[1]}) {
            Due.due("chance(0, 1, " + off + ")", x.chance(0, 1, off), -1);
        }
    }

    /** "so many .. more at least are OFF" */
    private static void chanceAtLeast() {
        TemperCellar x = Due.told(TWO + "bottle a m n 0 10 1;bottle b m n 1 10 1;bottle c m n 2 10 2;bottle d m n 3 10 9;thunder 100;");
        int[] one = {10, 10, 10, 0, 0};
        int[] two = {10, 10, 10, 10, 0};
        for (int off = 0; off <= 4; off++) {
            Due.due("chance(7, 1, " + off + ")", x.chance(7, 1, off), one[off]);
            Due.due("chance(7, 2, " + off + ")", x.chance(7, 2, off), two[off]);
        }
        x.go(1);
        Due.due("one more", x.chance(7, 1, 1), 10);
        Due.due("not two more", x.chance(7, 1, 2), 0);
    }

    private static void chanceLastYear() {
        TemperCellar x = Due.told(TWO + "bottle a m n 0 10 1;thunder 100;law creep year=98;");
        Due.due("chance(0, 98, 1)", x.chance(0, 98, 1), 0);
        Due.due("chance(0, 99, 1)", x.chance(0, 99, 1), 10);
        x = Due.told(TWO + "bottle a m n 0 10 1;thunder 100;law creep year=99;");
        Due.due("chance(0, 99, 1)", x.chance(0, 99, 1), 0);
    }

    /** "TRIED (n 0 .. 99); NONE: no such ones (i 0 of all but 2)." */
    private static void triedNumbers() {
        TemperCellar x = Due.told(TWO + "bottle a m n 0 10 1;bottle b m n 1 10 1;thunder 50;");
        int[] ones = {2, 0, 1, 2, 2, 0};
        for (int what = 0; what <= 5; what++) {
            Due.due("tried(" + what + ", 0, 0)", x.tried(what, 0, 0), 0);
            Due.due("tried(" + what + ", 0, 1)", x.tried(what, 0, 1), ones[what]);
            for (int n : new int[] {-1, 100, FAR[0], FAR[1]}) {
                Due.due("tried(" + what + ", 0, " + n + ")", x.tried(what, 0, n), -1);
            }
            Due.due("tried(" + what + ", 1, 1)", x.tried(what, 1, 1), what == 2 ? 1 : -1);
            for (int i : new int[] {-1, 2, FAR[0], FAR[1]}) {
                Due.due("tried(" + what + ", " + i + ", 1)", x.tried(what, i, 1), -1);
            }
        }
        for (int what : new int[] {-1, 6, FAR[0], FAR[1]}) {
            Due.due("tried(" + what + ", 0, 1)", x.tried(what, 0, 1), -1);
        }
    }

    private static void triedLastYear() {
        TemperCellar x = Due.told(TWO + "bottle a m n 0 10 1;thunder 50;law creep 9*(year=98);");
        int[] want = {1, 0, 0, 1, 1, 1};
        for (int what = 0; what <= 5; what++) {
            Due.due("tried(" + what + ", 0, 98)", x.tried(what, 0, 98), 0);
            Due.due("tried(" + what + ", 0, 99)", x.tried(what, 0, 99), want[what]);
        }
    }

    /** "5 all CORKS are 9 now" and the others, at the year in which they differ. */
    private static void triedOtherwise() {
        TemperCellar x = Due.told(TWO + "bottle a m n 0 10 1;bottle b m n 0 10 3;thunder 50;");
        Due.due("all CORKS are 9: 8 years", x.tried(5, 0, 8), 0);
        Due.due("all CORKS are 9: 9 years", x.tried(5, 0, 9), 2);
        Due.due("nothing sets off: 1 year", x.tried(3, 0, 1), 1);
        Due.due("nothing sets off: 2 years", x.tried(3, 0, 2), 1);
        Due.due("nothing sets off: 3 years", x.tried(3, 0, 3), 2);
        Due.due("as it goes: 1 year", x.tried(0, 0, 1), 2);
        Due.due("without a: 2 years", x.tried(2, 0, 2), 0);
        Due.due("without a: 3 years", x.tried(2, 0, 3), 1);
        Due.due("without b", x.tried(2, 1, 99), 1);
        Due.due("no thunder", x.tried(1, 0, 99), 0);
        x = Due.told(TWO + "bottle a m n 0 10 9;bottle b n m 1 20 9;thunder 50;law creep force>12;need n 0 10 10;");
        Due.due("as it goes: all age", x.tried(0, 0, 12), 2);
        Due.due("nothing ages: a is opened in year 0", x.tried(4, 0, 12), 1);
    }

    /** A TEXT without LINES: what there isn't is NONE, what is counted is 0. */
    private static void emptyCellar() {
        TemperCellar x = new TemperCellar();
        Due.due("ahead OFF", x.ahead(99, 0, 0), 0);
        Due.due("ahead STRENGTH", x.ahead(0, 4, 0), -1);
        Due.due("firstOff", x.firstOff(0) + x.firstOff(1), -4);
        Due.due("chain", x.chain(0), -1);
        Due.due("racking", x.racking(60, 0) * 100 + x.racking(60, 4), -200);
        Due.due("serve", x.serve(0), -1);
        Due.due("pour", x.pour(0, 199), -2);
        Due.due("ripe", x.ripe(0, 0), -1);
        Due.due("dowry", x.dowry(0, 0), -1);
        Due.due("rests", x.rests(0, 1), -1);
        Due.due("rest", x.rest(0, 1, 0), -1);
        Due.due("lasts", x.lasts(0, 0, 0), -1);
        Due.due("chance of 0", x.chance(0, 1, 0), 10);
        Due.due("chance of 1", x.chance(0, 1, 1), 0);
        Due.due("tried", x.tried(0, 0, 99), 0);
        Due.due("tried without a bottle", x.tried(2, 0, 0), -1);
    }

    /** Five, ten, eight of them, down to none that is LYING: m's are at n, the last one is n's at m. */
    private static void fullCellar() {
        StringBuilder text = new StringBuilder(FIVE + bottles(9, "0 10 9") + "bottle z n m 1 20 9;thunder 50;");
        for (int i = 0; i < 8; i++) {
            text.append("need q 9 0 199;");
        }
        TemperCellar x = Due.told(text.toString());
        for (int lying = 10; lying >= 0; lying--) {
            int lyingOfM = Math.max(0, lying - 1);
            Due.due("LYING", x.count(5), lying);
            Due.due("ring of " + lying, x.ring(), lying >= 2 ? 3 : 0);
            Due.due("served by " + lying, x.served(), Math.min(lying, 8));
            Due.due("rests of " + lying, x.rests(0, 1), lying >= 2 ? 1 : lying == 1 ? 2 : 4);
            Due.due("dowry of " + lying, x.dowry(0, 1), lyingOfM % 2 * 10);
            Due.due("pour of " + lying, x.pour(0, 199), lying >= 2 ? (10 - lying) * 11 + 1 : -2);
            for (int what = 0; what <= 3; what++) {
                Due.due("racking(9, " + what + ") of " + lying, x.racking(9, what), what < lying ? 0 : -2);
            }
            Due.due("racking(9, 4) of " + lying, x.racking(9, 4), lying);
            Due.due("ahead(9, 0, 0) of " + lying, x.ahead(9, 0, 0), lying);
            Due.due("tried(5, 0, 9) of " + lying, x.tried(5, 0, 9), lying);
            x.open(10 - lying);
        }
    }
}
