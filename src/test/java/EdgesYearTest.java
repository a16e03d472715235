import java.math.BigInteger;

/** The edges that part 2 and promises 6 to 14 name: numbers of things, of laws, of a YEAR, and what is refused. */
public final class EdgesYearTest {
    private static final String TWO = "man m 3;man n 7;";
    private static final String THREE = TWO + "man o 0;";
    private static final String MOST = "1000*1000*1000*1000";
    private static final long ERROR = Long.MIN_VALUE;
    private static final int[] FAR = {Integer.MIN_VALUE, Integer.MAX_VALUE};

    public static void main(String[] args) {
        bottleEdges();
        bottleBothWrong();
        openedByWhom();
        manEdges();
        needEdges();
        needHasCome();
        binEdges();
        lawEdges();
        rackEdges();
        sealEdges();
        openEdges();
        goEdges();
        goUpTo9900();
        measures();
        corkZeroAtLeast();
        onlyLyingCreepsAndAges();
        strength199AtMost();
        goesOffAtCorkZero();
        burstsWithoutLaw();
        burstsByLaw();
        loadOfBurst();
        setOffLikewise();
        needFromTo();
        needWeakest();
        needOthers();
        hatesOnce();
        thunderBelow();
        thunderWithoutNumbers();
        numbersOf31Bits();
        valuesUpToTheLimit();
        divided();
        bothSides();
        asItGoes();
        Due.end();
    }

    private static String ten() {
        StringBuilder text = new StringBuilder(TWO + "man o 0;man p 0;man q 0;");
        for (int i = 0; i < 10; i++) {
            text.append("bottle b").append((char) ('a' + i)).append(" m n ").append(i % 6).append(' ').append(10 + i)
                    .append(" 9;");
        }
        for (int i = 0; i < 8; i++) {
            text.append("need q ").append(i).append(" 150 151;");
        }
        return text.toString();
    }

    /** "IndexOutOfBoundsException: no such BOTTLE. NoSuchElementException: no such what." */
    private static void bottleEdges() {
        TemperCellar x = Due.told(ten());
        for (int what = 0; what <= 6; what++) {
            Due.due("bottle(9, " + what + ")", Twins.bottle(x, 9, what), new int[] {0, 1, 3, 19, 9, 0, -1}[what]);
            Due.due("bottle(10, " + what + ")", Twins.bottle(x, 10, what), Twins.NO_BOTTLE);
            Due.due("bottle(-1, " + what + ")", Twins.bottle(x, -1, what), Twins.NO_BOTTLE);
        }
        Due.due("bottle(0, 7)", Twins.bottle(x, 0, 7), Twins.NO_WHAT);
        Due.due("bottle(9, -1)", Twins.bottle(x, 9, -1), Twins.NO_WHAT);
        for (int far : FAR) {
            Due.due("bottle(" + far + ", 0)", Twins.bottle(x, far, 0), Twins.NO_BOTTLE);
            Due.due("bottle(0, " + far + ")", Twins.bottle(x, 0, far), Twins.NO_WHAT);
        }
        x = Due.told(TWO + "bottle b m n 0 1 1;");
        Due.due("the only one", Twins.bottle(x, 0, 3), 1);
        Due.due("a second one", Twins.bottle(x, 1, 3), Twins.NO_BOTTLE);
        Due.due("a new text has fewer", Due.tell(x, TWO), 2);
        Due.due("no bottle is left", Twins.bottle(x, 0, 3), Twins.NO_BOTTLE);
        Due.due("of a new object", Twins.bottle(new TemperCellar(), 0, 0), Twins.NO_BOTTLE);
    }

    private static void bottleBothWrong() {
        TemperCellar x = Due.told(TWO + "bottle b m n 0 1 1;");
        Due.due("bottle(1, 7)", Twins.bottle(x, 1, 7), Twins.NO_BOTTLE);
        Due.due("bottle(-1, -1)", Twins.bottle(x, -1, -1), Twins.NO_BOTTLE);
    }

    /** "6 by whom it was OPENED (NONE: by nobody, by call)" */
    private static void openedByWhom() {
        TemperCellar x = Due.told(THREE + "bottle a m n 0 10 9;bottle b m n 1 20 9;bottle c m n 2 30 1;need o 0 11 11;thunder 100;");
        Due.due("by nobody so far", x.bottle(0, 6), -1);
        x.open(1);
        x.go(1);
        Due.due("by o", x.bottle(0, 6), 2);
        Due.due("by call", x.bottle(1, 6), -1);
        Due.due("OFF, by nobody", x.bottle(2, 6), -1);
        Due.due("states", x.bottle(0, 5) * 100 + x.bottle(1, 5) * 10 + x.bottle(2, 5), 112);
    }

    private static void manEdges() {
        TemperCellar x = Due.told(ten());
        int[] first = {3, 10, 145, 0};
        for (int what = 0; what <= 3; what++) {
            Due.due("man(0, " + what + ")", x.man(0, what), first[what]);
            Due.due("man(4, " + what + ")", x.man(4, what), 0);
            Due.due("man(5, " + what + ")", x.man(5, what), -1);
            Due.due("man(-1, " + what + ")", x.man(-1, what), -1);
        }
        Due.due("man(0, 4)", x.man(0, 4), -1);
        Due.due("man(0, -1)", x.man(0, -1), -1);
        for (int far : FAR) {
            Due.due("man(" + far + ", 0)", x.man(far, 0), -1);
            Due.due("man(0, " + far + ")", x.man(0, far), -1);
        }
        Due.due("man(0, 0) of a new object", new TemperCellar().man(0, 0), -1);
    }

    private static void needEdges() {
        TemperCellar x = Due.told(ten());
        int[] last = {4, 7, 150, 151, -1};
        for (int what = 0; what <= 4; what++) {
            Due.due("need(7, " + what + ")", x.need(7, what), last[what]);
            Due.due("need(8, " + what + ")", x.need(8, what), -1);
            Due.due("need(-1, " + what + ")", x.need(-1, what), -1);
        }
        Due.due("need(0, 5)", x.need(0, 5), -1);
        Due.due("need(0, -1)", x.need(0, -1), -1);
        for (int far : FAR) {
            Due.due("need(" + far + ", 0)", x.need(far, 0), -1);
            Due.due("need(0, " + far + ")", x.need(0, far), -1);
        }
        Due.due("need(0, 0) of a new object", new TemperCellar().need(0, 0), -1);
    }

    /** "4: NONE it hasn't come, 0 UNMET"; "in a YEAR 0 .. 99" */
    private static void needHasCome() {
        TemperCellar x = Due.told("man m 0;need m 0 0 0;need m 1 0 0;need m 98 0 0;need m 99 0 0;");
        int[] come = {0, 1, 2, 98, 99, 100};
        String[] want = {"nnnn", "0nnn", "00nn", "00nn", "000n", "0000"};
        int year = 0;
        for (int i = 0; i < come.length; i++) {
            x.go(come[i] - year);
            year = come[i];
            for (int need = 0; need < 4; need++) {
                Due.due("need(" + need + ", 4) in " + year, x.need(need, 4), want[i].charAt(need) == 'n' ? -1 : 0);
            }
        }
    }

    private static void binEdges() {
        TemperCellar x = Due.told(TWO + "bottle a m n 0 1 1;bottle b m n 5 1 1;");
        int[] want = {1, 0, 0, 0, 0, 2};
        for (int bin = 0; bin <= 5; bin++) {
            Due.due("bin(" + bin + ")", x.bin(bin), want[bin]);
        }
        for (int bin : new int[] {-1, 6, FAR[0], FAR[1]}) {
            Due.due("bin(" + bin + ")", x.bin(bin), -1);
        }
        StringBuilder full = new StringBuilder(TWO);
        for (int i = 0; i < 10; i++) {
            full.append("bottle b").append((char) ('a' + i)).append(" m n 3 1 1;");
        }
        x = Due.told(full + "thunder 100;");
        Due.due("all ten", x.bin(3), 1023);
        x.go(1);
        Due.due("none, all are off", x.bin(3), 0);
    }

    /** "Long.MIN_VALUE: an ERROR, no such law, no such ones, not LYING." */
    private static void lawEdges() {
        TemperCellar x = Due.told(TWO + "bottle a m n 0 10 9;bottle b m n 1 20 1;bottle c m n 2 30 9;thunder 100;"
                + "law ages 5;law creep 6;law burst 7;");
        for (int what = 0; what <= 2; what++) {
            Due.due("law(" + what + ", 0)", x.law(what, 0), 5 + what);
            Due.due("law(" + what + ", 2)", x.law(what, 2), 5 + what);
            Due.due("law(" + what + ", 3)", x.law(what, 3), ERROR);
            Due.due("law(" + what + ", -1)", x.law(what, -1), ERROR);
        }
        for (int what : new int[] {-1, 3, FAR[0], FAR[1]}) {
            Due.due("law(" + what + ", 0)", x.law(what, 0), ERROR);
        }
        for (int far : FAR) {
            Due.due("law(0, " + far + ")", x.law(0, far), ERROR);
        }
        x.open(2);
        Due.due("OPENED", x.law(0, 2), ERROR);
        x.go(1);
        Due.due("LYING", x.law(0, 0), 5);
        Due.due("OFF", x.law(0, 1), ERROR);
        String[] rules = {"ages", "creep", "burst"};
        for (int told = 0; told <= 2; told++) {
            x = Due.told(TWO + "bottle a m n 0 10 9;law " + rules[told] + " 0;");
            for (int what = 0; what <= 2; what++) {
                Due.due("law(" + what + ", 0) by " + rules[told], x.law(what, 0), what == told ? 0 : ERROR);
            }
        }
        Due.due("law(0, 0) of a new object", new TemperCellar().law(0, 0), ERROR);
    }

    private static TemperCellar threeStates() {
        TemperCellar x = Due.told(TWO + "bottle a m n 0 10 9;bottle b m n 1 20 1;bottle c m n 2 30 9;thunder 100;");
        x.go(1);
        x.open(2);
        return x;
    }

    /** "false: no such ones, not LYING, it is there." */
    private static void rackEdges() {
        TemperCellar x = threeStates();
        Due.due("OFF", x.rack(1, 0), false);
        Due.due("OPENED", x.rack(2, 0), false);
        Due.due("it is there", x.rack(0, 0), false);
        for (int bin : new int[] {-1, 6, FAR[0], FAR[1]}) {
            Due.due("rack(0, " + bin + ")", x.rack(0, bin), false);
        }
        for (int bottle : new int[] {-1, 3, FAR[0], FAR[1]}) {
            Due.due("rack(" + bottle + ", 1)", x.rack(bottle, 1), false);
        }
        Due.due("nothing more to undo", x.count(14), 1);
        for (int bin = 5; bin >= 0; bin--) {
            Due.due("rack(0, " + bin + ")", x.rack(0, bin), true);
            Due.due("BIN", x.bottle(0, 2), bin);
            Due.due("it is there", x.rack(0, bin), false);
        }
        Due.due("rack of a new object", new TemperCellar().rack(0, 0), false);
    }

    /** "-2: it isn't LYING, it has; NONE: no such BOTTLE." */
    private static void sealEdges() {
        TemperCellar x = threeStates();
        Due.due("OFF", x.seal(1), -2);
        Due.due("OPENED", x.seal(2), -2);
        Due.due("one less than told", x.bottle(0, 4), 8);
        Due.due("seal", x.seal(0), 9);
        Due.due("it has", x.seal(0), -2);
        for (int bottle : new int[] {-1, 3, FAR[0], FAR[1]}) {
            Due.due("seal(" + bottle + ")", x.seal(bottle), -1);
        }
        for (int cork = 2; cork <= 9; cork++) {
            x = Due.told(TWO + "bottle a m n 0 10 " + cork + ";thunder 100;");
            Due.due("it has", x.seal(0), -2);
            x.go(cork - 1);
            Due.due("the last CORK", x.bottle(0, 4), 1);
            Due.due("as told again", x.seal(0), cork);
        }
        Due.due("seal of a new object", new TemperCellar().seal(0), -1);
    }

    /** "-2: it isn't LYING; NONE: no such BOTTLE." */
    private static void openEdges() {
        TemperCellar x = threeStates();
        Due.due("OFF", x.open(1), -2);
        Due.due("OPENED", x.open(2), -2);
        for (int bottle : new int[] {-1, 3, FAR[0], FAR[1]}) {
            Due.due("open(" + bottle + ")", x.open(bottle), -1);
        }
        Due.due("LYING", x.open(0), 11);
        Due.due("not LYING any more", x.open(0), -2);
        Due.due("open of a new object", new TemperCellar().open(0), -1);
    }

    /** "So many YEARS (0 .. 99) go by" */
    private static void goEdges() {
        TemperCellar x = Due.told(TWO + "bottle a m n 0 1 9;");
        for (int n : new int[] {-1, 100, FAR[0], FAR[1]}) {
            Due.due("go(" + n + ")", x.go(n), -1);
            Due.due("none goes by", x.count(4), 0);
            Due.due("nothing ages", x.bottle(0, 3), 1);
        }
        Due.due("go(0)", x.go(0), 0);
        Due.due("nothing ages", x.bottle(0, 3), 1);
        Due.due("go(99)", x.go(99), 99);
        Due.due("it ages 99 times", x.bottle(0, 3), 100);
        Due.due("go(1)", x.go(1), 100);
        Due.due("it ages once", x.bottle(0, 3), 101);
    }

    /** "NONE, and none does: no such number, behind 9900." */
    private static void goUpTo9900() {
        TemperCellar x = Due.told(TWO + "bottle a m n 0 1 9;law ages year>=9899;");
        for (int i = 1; i <= 99; i++) {
            x.go(99);
        }
        Due.due("9801", x.count(4), 9801);
        Due.due("exactly 9900", x.keep(), 9801);
        Due.due("go(99)", x.go(99), 9900);
        Due.due("the last YEAR went by", x.bottle(0, 3), 2);
        for (int n = 1; n <= 99; n += 14) {
            Due.due("go(" + n + ") at 9900", x.go(n), -1);
        }
        Due.due("go(0) at 9900", x.go(0), 9900);
        Due.due("none went by", x.bottle(0, 3), 2);
        Due.due("but ahead one may look", x.ahead(99, 4, 0), 101);
        x.back();
        Due.due("go(1)", x.go(1), 9802);
        Due.due("99 more are too many", x.go(99), -1);
        Due.due("none went by", x.count(4), 9802);
        Due.due("98 are not", x.go(98), 9900);
    }

    private static int corkBehindYear(String law, int cork) {
        TemperCellar x = Due.told(TWO + "bottle a m n 0 10 " + cork + ";thunder 100;" + law);
        x.go(1);
        return x.bottle(0, 4);
    }

    private static int strengthBehindYear(String law, int strength) {
        TemperCellar x = Due.told(TWO + "bottle a m n 0 " + strength + " 9;" + law);
        x.go(1);
        return x.bottle(0, 3);
    }

    /** "E of creep (0 .. 9; 1 without, with an ERROR)"; "E of ages (0 .. 9; 1 without, with an ERROR)" */
    private static void measures() {
        String[] laws = {"0-" + MOST, "0-1", "0", "1", "8", "9", "10", "11", MOST, MOST + "+1", "0-" + MOST + "-1", "5/0"};
        int[] want = {0, 0, 0, 1, 8, 9, 9, 9, 9, 1, 1, 1};
        for (int i = 0; i < laws.length; i++) {
            Due.due("creep " + laws[i], corkBehindYear("law creep " + laws[i] + ";", 9), 9 - want[i]);
            Due.due("ages " + laws[i], strengthBehindYear("law ages " + laws[i] + ";", 50), 50 + want[i]);
        }
        Due.due("without creep", corkBehindYear("law ages 5;", 9), 8);
        Due.due("without ages", strengthBehindYear("law creep 5;", 50), 51);
    }

    /** "is less by E of creep .., 0 at least" */
    private static void corkZeroAtLeast() {
        for (int cork = 1; cork <= 9; cork++) {
            for (int creep = 0; creep <= 10; creep++) {
                TemperCellar x = Due.told(TWO + "bottle a m n 0 10 " + cork + ";thunder 100;law creep " + creep + ";");
                x.go(1);
                int left = cork - Math.min(creep, 9);
                Due.due("CORK " + cork + " by " + creep, x.bottle(0, 4), left < 0 ? 0 : left);
                Due.due("OFF, if it is 0", x.bottle(0, 5), left <= 0 ? 2 : 0);
            }
        }
    }

    private static void onlyLyingCreepsAndAges() {
        TemperCellar x = threeStates();
        x.go(3);
        Due.due("LYING", x.bottle(0, 3) * 10 + x.bottle(0, 4), 145);
        Due.due("OFF", x.bottle(1, 3) * 10 + x.bottle(1, 4), 210);
        Due.due("OPENED", x.bottle(2, 3) * 10 + x.bottle(2, 4), 318);
    }

    /** "is more by E of ages .., 199 at most" */
    private static void strength199AtMost() {
        TemperCellar x = Due.told(TWO + "bottle a m n 0 99 9;bottle b m n 1 1 9;bottle c m n 2 91 9;law ages 9;");
        x.go(11);
        Due.due("198", x.bottle(0, 3), 198);
        Due.due("190", x.bottle(2, 3), 190);
        x.go(1);
        Due.due("198 and 9", x.bottle(0, 3), 199);
        Due.due("190 and 9", x.bottle(2, 3), 199);
        x.go(1);
        Due.due("199 and 9", x.bottle(0, 3), 199);
        x.go(9);
        Due.due("1 and 22 times 9", x.bottle(1, 3), 199);
        x = Due.told(TWO + "bottle a m n 0 99 9;");
        x.go(99);
        Due.due("198", x.bottle(0, 3), 198);
        x.go(1);
        Due.due("199", x.bottle(0, 3), 199);
        x.go(1);
        Due.due("199 still", x.bottle(0, 3), 199);
        Due.due("its sum", x.man(0, 2), 199);
    }

    /** "each that is LYING with CORK 0 goes OFF" */
    private static void goesOffAtCorkZero() {
        TemperCellar x = Due.told(TWO + "bottle a m n 0 10 3;thunder 100;");
        x.go(2);
        Due.due("CORK 1", x.bottle(0, 4) * 10 + x.bottle(0, 5), 10);
        x.go(1);
        Due.due("CORK 0", x.bottle(0, 4) * 10 + x.bottle(0, 5), 2);
        x = Due.told(TWO + "bottle a m n 0 10 1;bottle b m n 1 10 1;thunder 100;");
        x.open(1);
        x.go(1);
        Due.due("what is OPENED doesn't go OFF", x.bottle(0, 5) * 10 + x.bottle(1, 5), 21);
    }

    /** "(CORK is 2 at most, without, with an ERROR)" */
    private static void burstsWithoutLaw() {
        for (String law : new String[] {"", "law burst 1/0;", "law burst " + MOST + "+1;", "law ages 1;"}) {
            for (int cork = 1; cork <= 9; cork++) {
                TemperCellar x = Due.told(TWO + "bottle a m n 0 10 9;bottle b m n 0 10 " + cork + ";" + law);
                Due.due("CORK " + cork + " beside, " + law, x.chain(0), cork <= 2 ? 3 : 1);
            }
        }
    }

    /** "of which E of burst isn't 0" */
    private static void burstsByLaw() {
        String[] laws = {"0", "1", "0-1", "2", "9999", MOST, "0-" + MOST, "1/2", "0*9", "not 0", "not 1"};
        int[] want = {1, 3, 3, 3, 3, 3, 3, 1, 1, 3, 1};
        for (int i = 0; i < laws.length; i++) {
            TemperCellar x = Due.told(TWO + "bottle a m n 0 10 9;bottle b m n 0 10 1;bottle c m n 1 10 1;law burst " + laws[i] + ";");
            Due.due("burst " + laws[i], x.chain(0), want[i]);
        }
    }

    /** "load: how many are LYING in its BIN (of burst without the ones that are OFF by then)" */
    private static void loadOfBurst() {
        StringBuilder full = new StringBuilder(TWO);
        for (int i = 0; i < 10; i++) {
            full.append("bottle b").append((char) ('a' + i)).append(" m n 3 1 9;");
        }
        for (int load = 0; load <= 11; load++) {
            TemperCellar x = Due.told(full + "law burst load=" + load + ";law ages load;");
            Due.due("load now", x.law(0, 0), 10);
            Due.due("the one that is set off at load " + load, x.chain(0), load == 9 ? 3 : 1);
            x = Due.told(full + "law burst load>=" + load + ";");
            Due.due("those set off down to load " + load, Integer.bitCount(x.chain(0)), load <= 9 ? 11 - Math.max(load, 1) : 1);
        }
    }

    /** "these do so likewise, each behind the ones that were set off ahead of it" */
    private static void setOffLikewise() {
        String law = "law burst (cork=4) or (cork=3 and load=1);";
        TemperCellar x = Due.told(TWO + "bottle a m n 0 10 9;bottle b m n 0 10 3;bottle c m n 0 10 4;" + law);
        Due.due("c goes OFF by a, b by c", x.chain(0), 7);
        Due.due("c by b", x.chain(1), 6);
        Due.due("b isn't by c, while a is LYING", x.chain(2), 4);
        x = Due.told(TWO + "bottle a m n 0 10 1;bottle b m n 0 10 4;bottle c m n 0 10 5;thunder 100;" + law);
        x.go(1);
        Due.due("in a YEAR, too", x.count(7), 3);
        law = "law burst cork=9-load;";
        x = Due.told(TWO + "bottle a m n 0 10 9;bottle b m n 0 10 8;bottle c m n 0 10 7;bottle d m n 0 10 6;bottle e m n 0 10 5;" + law);
        Due.due("e by a, d by e, c by d, b by c", x.chain(0), 31);
        law = "law burst (cork=4 and load=3) or (cork=3 and load=2);";
        x = Due.told(TWO + "bottle a m n 0 10 9;bottle b m n 0 10 3;bottle c m n 0 10 4;bottle d m n 0 10 3;" + law);
        Due.due("d is looked at ahead of b: by a, not by c", x.chain(0), 13);
    }

    /** "whose STRENGTH is from its first one to its last one" */
    private static void needFromTo() {
        for (int strength = 1; strength <= 99; strength += 7) {
            String bottle = TWO + "bottle a m n 0 " + strength + " 9;law ages 0;need n 0 ";
            String[] ranges = {strength + " " + strength, "0 " + strength, strength + " 199", "0 " + (strength - 1),
                (strength + 1) + " 199", "0 199"};
            int[] want = {2, 2, 2, 0, 0, 2};
            for (int i = 0; i < ranges.length; i++) {
                TemperCellar x = Due.told(bottle + ranges[i] + ";");
                x.go(1);
                Due.due("STRENGTH " + strength + " for " + ranges[i], x.need(0, 4), want[i]);
                Due.due("OPENED, if MET", x.bottle(0, 5), want[i] == 2 ? 1 : 0);
            }
        }
    }

    /** "the weakest is OPENED, the first of several" */
    private static void needWeakest() {
        TemperCellar x = Due.told(TWO + "bottle a m n 0 21 9;bottle b m n 1 20 9;bottle c m n 2 20 9;bottle d n m 3 19 9;"
                + "law ages 0;need m 0 0 199;");
        x.go(1);
        Due.due("b, and no other", x.bottle(1, 5) * 100 + x.count(6), 101);
        Due.due("MET by one's own", x.need(0, 4), 1);
        x = Due.told(TWO + "bottle a n m 0 21 9;bottle b n m 1 20 9;bottle c n m 2 20 9;law ages 0;need m 0 0 199;");
        x.go(1);
        Due.due("b of another's", x.bottle(1, 5) * 100 + x.count(6), 101);
    }

    /** "if there is none, of all others' likewise: it is MET, and the PERSON HATES the one at whom that was (oneself, too); else it is UNMET" */
    private static void needOthers() {
        TemperCellar x = Due.told(THREE + "bottle a m n 0 10 9;bottle b n o 1 5 9;law ages 0;need m 0 10 10;need m 1 5 5;"
                + "need o 2 0 199;");
        x.go(1);
        Due.due("one's own: hates nobody", x.man(0, 3), 0);
        x.go(1);
        Due.due("another's: hates o", x.man(0, 3), 4);
        x.go(1);
        Due.due("UNMET: hates nobody", x.man(2, 3), 0);
        Due.due("need", x.need(2, 4), 0);
        x = Due.told(TWO + "bottle a m n 0 10 9;need n 0 0 199;");
        x.go(1);
        Due.due("oneself", x.man(1, 3), 2);
        Due.due("pairs", x.count(11), 1);
    }

    /** "11 how many pairs HATE (each of one at one)" */
    private static void hatesOnce() {
        TemperCellar x = Due.told(THREE + "bottle a m n 0 10 9;bottle b m n 1 20 9;bottle c m n 2 30 9;law burst hated;"
                + "need o 0 0 15;need o 1 20 25;need n 2 0 199;");
        x.go(1);
        Due.due("o hates n", x.count(11) * 10 + x.law(2, 2), 11);
        Due.due("more that hate as it goes", x.ahead(1, 3, 0) * 10 + x.ahead(2, 3, 0), 1);
        x.go(1);
        Due.due("o hates n again", x.count(11) * 10 + x.law(2, 2), 11);
        x.go(1);
        Due.due("n hates n, too", x.count(11), 2);
        Due.due("MET", x.count(8), 3);
    }

    private static long next(long last) {
        return BigInteger.valueOf(last).multiply(BigInteger.valueOf(1103515245)).add(BigInteger.valueOf(12345))
                .mod(BigInteger.ONE.shiftLeft(31)).longValueExact();
    }

    /** "it THUNDERS, if a number modulo 100 is below thunder" */
    private static void thunderBelow() {
        for (int seed : new int[] {0, 1, 99999}) {
            long last = next(seed);
            int number = (int) (last / 65536 % 100);
            for (int odds = 0; odds <= 100; odds++) {
                TemperCellar x = Due.told("thunder " + odds + ";seed " + seed + ";");
                x.go(1);
                Due.due("thunder " + odds + " by " + number, x.count(10), number < odds ? 1 : 0);
                x.go(1);
                int second = (int) (next(last) / 65536 % 100);
                Due.due("then by " + second, x.count(10), (number < odds ? 1 : 0) + (second < odds ? 1 : 0));
            }
        }
    }

    /** "no number, if that is 0 or 100" */
    private static void thunderWithoutNumbers() {
        TemperCellar x = Due.told("thunder 0;seed 5;");
        x.go(99);
        Due.due("thunder 0", x.count(10), 0);
        x = Due.told("thunder 100;seed 5;");
        x.go(99);
        Due.due("thunder 100", x.count(10), 99);
        Due.due("chance of 0", Due.told(TWO + "bottle a m n 0 1 1;thunder 0;").chance(0, 99, 1), 0);
        Due.due("chance of 100", Due.told(TWO + "bottle a m n 0 1 1;thunder 100;").chance(0, 1, 1), 10);
    }

    /** "without what is above 31 bits" */
    private static void numbersOf31Bits() {
        for (int seed : new int[] {0, 1, 65535, 65536, 1 << 30, Integer.MAX_VALUE - 1, Integer.MAX_VALUE}) {
            for (int odds = 1; odds <= 99; odds += 2) {
                long last = seed;
                int times = 0;
                for (int i = 0; i < 10; i++) {
                    last = next(last);
                    times += last / 65536 % 100 < odds ? 1 : 0;
                }
                TemperCellar x = Due.told(TWO + "bottle a m n 0 1 1;thunder " + odds + ";");
                Due.due("chance by " + seed + " of " + odds, x.chance(seed, 1, 1), times);
            }
        }
    }

    private static void value(String law, long want) {
        Due.due("law " + law, Due.told(TWO + "bottle a m n 0 50 9;law burst " + law + ";").law(2, 0), want);
    }

    /** "a value above 10 to the 12 or below 0 by more than that" */
    private static void valuesUpToTheLimit() {
        long most = 1_000_000_000_000L;
        value(MOST, most);
        value("0-" + MOST, -most);
        value(MOST + "+1", ERROR);
        value("1+" + MOST, ERROR);
        value(MOST + "-1", most - 1);
        value("0-" + MOST + "-1", ERROR);
        value("0-1-" + MOST, ERROR);
        value("0-" + MOST + "+1", 1 - most);
        value(MOST + "-(0-1)", ERROR);
        value(MOST + "*1", most);
        value(MOST + "*(0-1)", -most);
        value("(0-1)*" + MOST, -most);
        value("(0-1)*(0-" + MOST + ")", most);
        value(MOST + "*2", ERROR);
        value("2*(" + MOST + ")", ERROR);
        value("(0-2)*(" + MOST + ")", ERROR);
        value("(" + MOST + ")*(0-2)", ERROR);
        value("(1000*1000)*(1000*1000)", most);
        value("(1000*1000+1)*(1000*1000)", ERROR);
        value("(1000*1000)*(1000*1000+1)", ERROR);
        value("(1000*1000+1)*(1000*1000-1)", most - 1);
        value("(0-1000*1000)*(1000*1000)", -most);
        value("(0-1000*1000)*(1000*1000+1)", ERROR);
        value("(0-1000*1000-1)*(1000*1000)", ERROR);
        value("(" + MOST + ")*(" + MOST + ")", ERROR);
        value("(4096*4096*128)*(4096*4096*512)", ERROR);
        value("(4096*4096*512)*(4096*4096*128)", ERROR);
        value("(0-4096*4096*128)*(4096*4096*512)", ERROR);
        value("(2048*(1024*1024))*(8192*(1024*1024))", ERROR);
        value("(" + MOST + ")/1", most);
        value("(" + MOST + ")/(0-1)", -most);
        value("(" + MOST + ")+(0-" + MOST + ")", 0);
        value("(" + MOST + "+1)*0", ERROR);
        value("0*(" + MOST + "+1)", ERROR);
        value("(" + MOST + "+1)-1", ERROR);
        value("0*(" + MOST + ")", 0);
        value("(" + MOST + ")*0", 0);
    }

    /** "/ is cut towards 0; ERROR: / by 0" */
    private static void divided() {
        value("1/2", 0);
        value("(0-1)/2", 0);
        value("1/(0-2)", 0);
        value("(0-1)/(0-2)", 0);
        value("(0-3)/2", -1);
        value("3/(0-2)", -1);
        value("(0-3)/(0-2)", 1);
        value("(0-4)/2", -2);
        value("0/5", 0);
        value("0/(0-5)", 0);
        value("0/0", ERROR);
        value("5/0", ERROR);
        value("(0-5)/0", ERROR);
        value("5/(1/2)", ERROR);
        value("5/(force-50)", ERROR);
        value("5/(force-49)", 5);
        value("5/(force-51)", -5);
    }

    /** "comparisons, and, or, not are 1 or 0 (what isn't 0 is as 1, both sides are worked out)" */
    private static void bothSides() {
        value("0 and 1/0", ERROR);
        value("1/0 and 0", ERROR);
        value("1 or 1/0", ERROR);
        value("1/0 or 1", ERROR);
        value("not 1/0", ERROR);
        value("1<1/0", ERROR);
        value("1/0=1/0", ERROR);
        value("0-1 and 2", 1);
        value("0-1 or 0", 1);
        value("0 or 0-1", 1);
        value("2 and 0", 0);
        value("not (0-1)", 0);
        value("not 2", 0);
        value("not 0", 1);
        long[][] sides = {{0, 0}, {0, 1}, {1, 0}, {-1, 0}, {0, -1}};
        for (long[] side : sides) {
            String left = "(0" + (side[0] < 0 ? "" : "+") + side[0] + ")";
            String right = "(0" + (side[1] < 0 ? "" : "+") + side[1] + ")";
            value(left + "<" + right, side[0] < side[1] ? 1 : 0);
            value(left + "<=" + right, side[0] <= side[1] ? 1 : 0);
            value(left + "=" + right, side[0] == side[1] ? 1 : 0);
            value(left + "<>" + right, side[0] != side[1] ? 1 : 0);
            value(left + ">=" + right, side[0] >= side[1] ? 1 : 0);
            value(left + ">" + right, side[0] > side[1] ? 1 : 0);
        }
    }

    /** "AS IT GOES: without numbers: it THUNDERS, if thunder is 50 at least." */
    private static void asItGoes() {
        for (int odds : new int[] {0, 1, 49, 50, 51, 99, 100}) {
            TemperCellar x = Due.told(TWO + "bottle a m n 0 10 2;bottle b n m 1 20 9;thunder " + odds + ";seed 3;");
            boolean thunders = odds >= 50;
            Due.due("ahead at " + odds, x.ahead(2, 0, 0), thunders ? 1 : 0);
            Due.due("firstOff at " + odds, x.firstOff(0), thunders ? 2 : -2);
            Due.due("firstOff at " + odds, x.firstOff(1), thunders ? 1 : -2);
            Due.due("racking at " + odds, x.racking(2, 4), thunders ? 1 : 0);
            Due.due("ripe at " + odds, x.ripe(0, 12), thunders ? -2 : 2);
            Due.due("tried at " + odds, x.tried(0, 0, 2), thunders ? 1 : 0);
            Due.due("tried without thunder at " + odds, x.tried(1, 0, 2), 0);
            x.see(2, 0, true);
            Due.due("corks at " + odds, x.corks(0), thunders ? 7 : 1);
        }
    }
}
