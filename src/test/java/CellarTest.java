import java.util.NoSuchElementException;

/** Promises 6 to 14: bottle, man, need, bin, law, rack, seal, open, go, and what a YEAR is. */
public final class CellarTest {
    private static final String THREE = "man m 3;man n 7;man o 0;";

    public static void main(String[] args) {
        bottle();
        man();
        need();
        bin();
        lawNames();
        lawValues();
        lawErrors();
        rack();
        seal();
        open();
        goNumbers();
        thunder();
        creeping();
        ageing();
        goingOff();
        settingOff();
        needsMet();
        orderOfYear();
        Due.end();
    }

    private static long asked(TemperCellar x, int bottle, int what) {
        try {
            return x.bottle(bottle, what);
        } catch (IndexOutOfBoundsException e) {
            return -100;
        } catch (NoSuchElementException e) {
            return -200;
        }
    }

    private static void row(TemperCellar x, int bottle, int... want) {
        for (int what = 0; what < want.length; what++) {
            Due.due("bottle(" + bottle + ", " + what + ")", asked(x, bottle, what), want[what]);
        }
    }

    private static void bottle() {
        TemperCellar x = Due.told(THREE + "bottle a m n 5 99 9;bottle b o m 0 1 1;");
        row(x, 0, 0, 1, 5, 99, 9, 0, -1);
        row(x, 1, 2, 0, 0, 1, 1, 0, -1);
        Due.due("no such bottle", asked(x, 2, 0), -100);
        Due.due("bottle -1", asked(x, -1, 0), -100);
        Due.due("bottle MIN", asked(x, Integer.MIN_VALUE, 0), -100);
        Due.due("no such what", asked(x, 0, 7), -200);
        Due.due("what -1", asked(x, 0, -1), -200);
        Due.due("no such ones at all", asked(x, 2, 7), -100);
        Due.due("of an empty text", asked(new TemperCellar(), 0, 0), -100);
        Due.due("open", x.open(0), 99);
        row(x, 0, 0, 1, 5, 99, 9, 1, -1);
    }

    private static void man() {
        TemperCellar x = Due.told(THREE + "bottle a m n 0 10 9;bottle b m o 1 20 9;bottle c n m 0 5 9;need m 0 5 6;");
        Due.due("HOT", x.man(1, 0), 7);
        Due.due("lying", x.man(0, 1), 2);
        Due.due("strength", x.man(0, 2), 30);
        Due.due("of none", x.man(2, 1), 0);
        Due.due("of none", x.man(2, 2), 0);
        Due.due("open", x.open(1), 20);
        Due.due("lying", x.man(0, 1), 1);
        Due.due("strength", x.man(0, 2), 10);
        Due.due("hates nobody", x.man(0, 3), 0);
        Due.due("go", x.go(1), 1);
        Due.due("hates oneself", x.man(0, 3), 1);
        Due.due("is hated, hates none", x.man(1, 3), 0);
        Due.due("no such person", x.man(3, 0), -1);
        Due.due("person -1", x.man(-1, 0), -1);
        Due.due("no such what", x.man(0, 4), -1);
        Due.due("what -1", x.man(0, -1), -1);
    }

    private static void need() {
        TemperCellar x = Due.told(THREE + "bottle a m n 0 10 9;bottle b n m 0 20 9;"
                + "need n 1 0 199;need o 0 20 30;need m 0 100 100;need m 0 11 11;");
        int[] want = {1, 1, 0, 199, -1};
        for (int what = 0; what < 5; what++) {
            Due.due("need(0, " + what + ")", x.need(0, what), want[what]);
        }
        Due.due("no such need", x.need(4, 0), -1);
        Due.due("need -1", x.need(-1, 0), -1);
        Due.due("no such what", x.need(0, 5), -1);
        Due.due("what -1", x.need(0, -1), -1);
        x.go(1);
        Due.due("it hasn't come", x.need(0, 4), -1);
        Due.due("met by another's", x.need(1, 4), 2);
        Due.due("unmet", x.need(2, 4), 0);
        Due.due("met by one's own", x.need(3, 4), 1);
        x.go(1);
        Due.due("unmet, all are opened", x.need(0, 4), 0);
    }

    private static void bin() {
        TemperCellar x = Due.told(THREE + "bottle a m n 0 10 9;bottle b m n 5 20 9;bottle c m n 0 30 9;");
        Due.due("bin(0)", x.bin(0), 5);
        Due.due("bin(1)", x.bin(1), 0);
        Due.due("bin(5)", x.bin(5), 2);
        Due.due("bin(6)", x.bin(6), -1);
        Due.due("bin(-1)", x.bin(-1), -1);
        x.open(0);
        Due.due("bin(0) without the opened one", x.bin(0), 4);
    }

    private static TemperCellar withLaw(String law) {
        return Due.told(THREE + "bottle a m n 4 50 6;bottle b n o 4 8 9;bottle c o n 4 9 9;bottle d o m 1 7 8;"
                + "need m 0 8 8;need o 0 9 9;need o 1 51 51;need n 1 50 60;" + "law ages 1;law burst " + law + ";");
    }

    private static void lawNames() {
        String[] names = {"force", "cork", "hated", "bin", "hot", "load", "year"};
        int[] want = {50, 6, 0, 4, 3, 3, 0};
        for (int i = 0; i < names.length; i++) {
            Due.due("law: " + names[i], withLaw(names[i]).law(2, 0), want[i]);
        }
        TemperCellar x = withLaw("load*100+hated*10+year");
        x.rack(3, 4);
        Due.due("load with the racked one", x.law(2, 0), 400);
        x.open(2);
        Due.due("load without the opened one", x.law(2, 0), 300);

        x = Due.told(THREE + "bottle a m n 4 50 6;bottle b m o 4 80 9;bottle c o n 4 90 9;bottle d n m 1 7 8;"
                + "need n 0 51 60;need m 1 92 92;need m 1 9 9;law burst hated;");
        Due.due("hated at first", x.law(2, 1), 0);
        x.go(1);
        Due.due("n hates n", x.man(1, 3), 2);
        Due.due("hated: c's is hated by one", x.law(2, 2), 1);
        Due.due("hated: b's is not", x.law(2, 1), 0);
        x.go(1);
        Due.due("m hates n and m", x.man(0, 3), 3);
        Due.due("hated: b's is not", x.law(2, 1), 0);
    }

    private static void lawValue(String law, long want) {
        Due.due("law: " + law, withLaw(law).law(2, 0), want);
    }

    private static void lawValues() {
        lawValue("1+2*3", 7);
        lawValue("(1+2)*3", 9);
        lawValue("10-3-2", 5);
        lawValue("100/5/3", 6);
        lawValue("100/5*3", 60);
        lawValue("7/2", 3);
        lawValue("(0-7)/2", -3);
        lawValue("7/(0-2)", -3);
        lawValue("(0-7)/(0-2)", 3);
        lawValue("0-5", -5);
        lawValue("1<2", 1);
        lawValue("2<2", 0);
        lawValue("2<=2", 1);
        lawValue("3<=2", 0);
        lawValue("2=2", 1);
        lawValue("2=3", 0);
        lawValue("2<>3", 1);
        lawValue("2<>2", 0);
        lawValue("2>=2", 1);
        lawValue("1>=2", 0);
        lawValue("3>2", 1);
        lawValue("2>2", 0);
        lawValue("1+1<3-0", 1);
        lawValue("7 and 5", 1);
        lawValue("7 and 0", 0);
        lawValue("0 or 0-3", 1);
        lawValue("0 or 0", 0);
        lawValue("not 0", 1);
        lawValue("not 9", 0);
        lawValue("not not 9", 1);
        lawValue("not 1<0", 1);
        lawValue("not 0 and 0", 0);
        lawValue("not (0 and 0)", 1);
        lawValue("1 or 1 and 0", 1);
        lawValue("(1 or 1) and 0", 0);
        lawValue("(1<2)+(3>2)", 2);
        lawValue("((((((((force))))))))", 50);
        lawValue("9999", 9999);
        lawValue("1" + "+1".repeat(31), 32);
    }

    private static void lawErrors() {
        long error = Long.MIN_VALUE;
        lawValue("1/0", error);
        lawValue("0/(force-50)", error);
        lawValue("1000*1000*1000*1000", 1_000_000_000_000L);
        lawValue("1000*1000*1000*1000+1", error);
        lawValue("0-1000*1000*1000*1000", -1_000_000_000_000L);
        lawValue("0-1000*1000*1000*1000-1", error);
        lawValue("1000*1000*1000*1000+1-1", error);
        lawValue("1000*1000*1000*1000*0", 0);
        lawValue("0*(1000*1000*1000*1000)", 0);
        lawValue("(1000*1000*1000*1000)*(1000*1000*1000*1000)", error);
        lawValue("(0-1000*1000*1000*1000)*(1000*1000*1000*1000)", error);
        lawValue("(1000*1000*1000*1000)*(0-1)", -1_000_000_000_000L);
        lawValue("(4096*4096*256)*(4096*4096*256)", error);
        lawValue("(0-4096*4096*256)*(4096*4096*256)", error);
        lawValue("(4096*4096*256)*(0-4096*4096*256)", error);
        lawValue("9999*9999*9999", 9999L * 9999 * 9999);
        lawValue("1 or 1/0", error);
        lawValue("0 and 1/0", error);
        lawValue("not (1/0)", error);
        TemperCellar x = withLaw("1");
        Due.due("no such law", x.law(1, 0), error);
        Due.due("law 3", x.law(3, 0), error);
        Due.due("law -1", x.law(-1, 0), error);
        Due.due("no such bottle", x.law(2, 4), error);
        Due.due("bottle -1", x.law(2, -1), error);
        Due.due("lying", x.law(2, 3), 1);
        x.open(3);
        Due.due("not lying", x.law(2, 3), error);
    }

    private static void rack() {
        TemperCellar x = Due.told(THREE + "bottle a m n 0 10 9;bottle b m n 5 20 9;");
        Due.due("it is there", x.rack(0, 0), false);
        Due.due("rack", x.rack(0, 5), true);
        Due.due("it is there now", x.rack(0, 5), false);
        Due.due("bin(5)", x.bin(5), 3);
        Due.due("bin(0)", x.bin(0), 0);
        Due.due("BIN", asked(x, 0, 2), 5);
        Due.due("no such bin", x.rack(0, 6), false);
        Due.due("bin -1", x.rack(0, -1), false);
        Due.due("no such bottle", x.rack(2, 0), false);
        Due.due("bottle -1", x.rack(-1, 0), false);
        Due.due("open", x.open(0), 10);
        Due.due("not lying", x.rack(0, 1), false);
        Due.due("what can be undone", x.count(14), 2);
    }

    private static void seal() {
        TemperCellar x = Due.told(THREE + "bottle a m n 0 10 5;bottle b m n 1 20 1;thunder 100;");
        Due.due("it has", x.seal(0), -2);
        x.go(2);
        Due.due("CORK", asked(x, 0, 4), 3);
        Due.due("seal", x.seal(0), 5);
        Due.due("CORK", asked(x, 0, 4), 5);
        Due.due("it has again", x.seal(0), -2);
        Due.due("off", x.seal(1), -2);
        Due.due("no such bottle", x.seal(2), -1);
        Due.due("bottle -1", x.seal(-1), -1);
        x.go(1);
        x.open(0);
        Due.due("opened", x.seal(0), -2);
    }

    private static void open() {
        TemperCellar x = Due.told(THREE + "bottle a m n 0 10 5;bottle b m n 1 20 1;thunder 100;need o 0 11 11;");
        Due.due("no such bottle", x.open(2), -1);
        Due.due("bottle -1", x.open(-1), -1);
        Due.due("open", x.open(0), 10);
        Due.due("opened", x.open(0), -2);
        Due.due("by nobody", asked(x, 0, 6), -1);
        Due.due("OPENED", x.count(6), 1);
        x.go(1);
        Due.due("off", x.open(1), -2);
        Due.due("what is opened serves nobody", x.need(0, 4), 0);
        Due.due("and doesn't age", asked(x, 0, 3), 10);
    }

    private static void goNumbers() {
        TemperCellar x = Due.told("man m 0;");
        Due.due("go(0)", x.go(0), 0);
        Due.due("go(-1)", x.go(-1), -1);
        Due.due("go(100)", x.go(100), -1);
        Due.due("go(MAX)", x.go(Integer.MAX_VALUE), -1);
        for (int i = 1; i <= 99; i++) {
            Due.due("go(99)", x.go(99), 99 * i);
        }
        Due.due("the year", x.count(4), 9801);
        Due.due("go(98)", x.go(98), 9899);
        Due.due("behind 9900", x.go(2), -1);
        Due.due("none went by", x.count(4), 9899);
        Due.due("up to 9900", x.go(1), 9900);
        Due.due("behind 9900", x.go(1), -1);
        Due.due("go(0) at 9900", x.go(0), 9900);
    }

    /** The numbers from 0 on are 0, 21468, 9988, 22117; modulo 100: 0, 68, 88, 17. */
    private static void thunder() {
        int[] odds = {0, 1, 17, 18, 68, 69, 88, 89, 100};
        int[] want = {0, 1, 1, 2, 2, 3, 3, 4, 4};
        for (int i = 0; i < odds.length; i++) {
            TemperCellar x = Due.told("thunder " + odds[i] + ";");
            x.go(4);
            Due.due("thunders of " + odds[i], x.count(10), want[i]);
        }
        TemperCellar x = Due.told("seed 12345;thunder 68;");
        x.go(1);
        Due.due("by the seed's number", x.count(10), 0);
        x = Due.told("seed 12345;thunder 69;");
        x.go(1);
        Due.due("by the seed's number", x.count(10), 1);
        x = new TemperCellar();
        x.go(9);
        Due.due("none without thunder", x.count(10), 0);
    }

    private static int corkAfter(String law, int cork) {
        TemperCellar x = Due.told(THREE + "bottle a m n 0 10 " + cork + ";thunder 100;" + law);
        x.go(1);
        return x.bottle(0, 4);
    }

    private static void creeping() {
        Due.due("without", corkAfter("", 9), 8);
        Due.due("by 0", corkAfter("law creep 0;", 9), 9);
        Due.due("by 5", corkAfter("law creep 5;", 9), 4);
        Due.due("by less than 0", corkAfter("law creep 0-4;", 9), 9);
        Due.due("by 9 at most", corkAfter("law creep 1000;", 9), 0);
        Due.due("0 at least", corkAfter("law creep 7;", 3), 0);
        Due.due("with an error", corkAfter("law creep 5/0;", 9), 8);
        Due.due("by its hot", corkAfter("law creep hot;", 9), 6);
        TemperCellar x = Due.told(THREE + "bottle a m n 0 10 9;thunder 49;seed 1;law creep 3;");
        x.go(99);
        Due.due("as often as it thunders", x.count(7), x.count(10) >= 3 ? 1 : 0);
    }

    private static int forceAfter(String law, int years) {
        TemperCellar x = Due.told(THREE + "bottle a m n 0 99 9;" + law);
        x.go(years);
        return x.bottle(0, 3);
    }

    private static void ageing() {
        Due.due("without", forceAfter("", 1), 100);
        Due.due("without, 99 years", forceAfter("", 99), 198);
        Due.due("by 0", forceAfter("law ages 0;", 9), 99);
        Due.due("by less", forceAfter("law ages 0-1;", 9), 99);
        Due.due("by 9 at most", forceAfter("law ages 10;", 2), 117);
        Due.due("199 at most", forceAfter("law ages 9;", 12), 199);
        Due.due("with an error", forceAfter("law ages 3/0;", 4), 103);
        Due.due("by its year", forceAfter("law ages year;", 4), 105);
    }

    private static void goingOff() {
        TemperCellar x = Due.told(THREE + "bottle a m n 0 10 2;bottle b m n 1 10 1;bottle c m n 2 10 9;thunder 100;");
        x.go(1);
        row(x, 0, 0, 1, 0, 11, 1, 0, -1);
        row(x, 1, 0, 1, 1, 11, 0, 2, -1);
        x.go(1);
        row(x, 0, 0, 1, 0, 12, 0, 2, -1);
        row(x, 1, 0, 1, 1, 11, 0, 2, -1);
        row(x, 2, 0, 1, 2, 12, 7, 0, -1);
        Due.due("OFF", x.count(7), 2);
        Due.due("LYING", x.count(5), 1);
    }

    private static void settingOff() {
        TemperCellar x = Due.told(THREE + "bottle a m n 0 10 1;bottle b m n 0 10 3;bottle c m n 0 10 4;"
                + "bottle d m n 1 10 3;thunder 100;");
        x.go(1);
        Due.due("by CORK 2 at most, in its bin", x.count(7), 2);
        Due.due("b", asked(x, 1, 5), 2);
        x = Due.told(THREE + "bottle a m n 0 10 9;bottle b m n 0 10 9;bottle c m n 0 10 1;thunder 100;law burst 0-1;");
        x.go(1);
        Due.due("by a law that isn't 0", x.count(7), 3);
        x = Due.told(THREE + "bottle a m n 0 10 9;bottle b m n 0 10 2;bottle c m n 0 10 1;thunder 100;law burst 1/0;");
        x.go(1);
        Due.due("by CORK with an error", x.count(7), 2);
        x = Due.told(THREE + "bottle a m n 0 10 2;bottle b m n 0 10 2;bottle c m n 0 10 1;thunder 100;law burst 0;");
        x.go(1);
        Due.due("none by 0", x.count(7), 1);
        x = Due.told(THREE + "bottle a m n 0 10 1;bottle b m n 0 10 9;bottle c m n 0 10 9;bottle d m n 0 10 9;"
                + "thunder 100;law burst load=3;");
        x.go(1);
        Due.due("load is counted without those that are off", x.count(7), 2);
        Due.due("b", asked(x, 1, 5), 2);
        x = Due.told(THREE + "bottle a m n 0 10 1;bottle b m n 0 10 4;bottle c m n 0 10 5;bottle d m n 0 10 4;"
                + "bottle e m n 0 10 9;thunder 100;law burst (cork=4 and load=4) or (cork=3 and load=3);");
        x.go(1);
        Due.due("each behind the ones that were set off ahead: c", asked(x, 2, 5), 2);
        Due.due("each behind the ones that were set off ahead: d", asked(x, 3, 5), 2);
        Due.due("each behind the ones that were set off ahead: b", asked(x, 1, 5), 0);
    }

    private static void needsMet() {
        TemperCellar x = Due.told(THREE + "bottle a n m 0 19 9;bottle b m n 0 29 9;bottle c m o 0 24 9;"
                + "bottle d m n 0 24 9;bottle e o m 0 29 9;need m 0 20 30;need m 0 20 29;need m 0 20 30;need m 0 20 30;"
                + "need m 0 0 199;need m 0 0 199;");
        x.go(1);
        Due.due("the weakest own, the first of several", asked(x, 2, 6), 0);
        Due.due("the next", x.need(1, 4), 1);
        Due.due("it is d", asked(x, 3, 5), 1);
        Due.due("then b", asked(x, 1, 5), 1);
        Due.due("then another's", x.need(3, 4), 2);
        Due.due("the weakest one", asked(x, 0, 5), 1);
        Due.due("then the last", x.need(4, 4), 2);
        Due.due("m hates m", x.man(0, 3), 1);
        Due.due("then unmet", x.need(5, 4), 0);
        Due.due("MET", x.count(8), 5);
        Due.due("UNMET", x.count(9), 1);
        Due.due("HATES, once", x.count(11), 1);
    }

    private static void orderOfYear() {
        TemperCellar x = Due.told(THREE + "bottle a m n 0 10 5;bottle b m n 1 10 1;need m 0 14 14;need n 0 11 11;"
                + "need o 0 10 10;thunder 100;law ages cork;");
        x.go(1);
        Due.due("it ages by the cork behind thunder, ahead of needs", x.need(0, 4), 1);
        Due.due("a was opened", asked(x, 0, 3), 14);
        Due.due("what went off meets none", x.need(1, 4) + x.need(2, 4), 0);
        x = Due.told(THREE + "bottle a m n 0 10 9;bottle b m o 0 20 9;need n 0 10 10;need o 1 10 99;law ages hated;");
        x.go(1);
        Due.due("strength is as told while nobody is hated", x.need(0, 4), 2);
        x.go(1);
        Due.due("b is at o, whom nobody hates", asked(x, 1, 3), 20);
        Due.due("o hates o", x.man(2, 3), 4);
    }
}
