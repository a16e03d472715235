/** Calls that the document lets change nothing: refused ones, and those that only ask. Each is made on one of two twins. */
public final class RefusedTest {
    private static final int[] FAR = {Integer.MIN_VALUE, Integer.MAX_VALUE};

    public static void main(String[] args) {
        textRefused();
        textWithFault();
        feedRefused();
        asksRefused();
        deedsRefused();
        goRefused();
        looksRefused();
        puzzlesRefused();
        seenRefused();
        seenFull();
        chancesRefused();
        undoAndBackRefused();
        asks();
        Due.end();
    }

    /** Years gone by, deeds to undo, an IMAGE, some SEEN and STRUCK, KNOWN by a part; a is LYING, b OFF, c OPENED. */
    private static TemperCellar laden() {
        TemperCellar x = Due.told("man m 3;man n 7;man o 0;bottle a m n 0 10 9;bottle b n o 1 20 2;bottle c o m 2 30 9;"
                + "bottle d m o 3 40 7;need m 1 20 33;need n 4 30 60;need o 9 150 199;thunder 60;seed 7;law ages 1+hot/3;"
                + "law creep 1+(bin=1);");
        x.rack(3, 0);
        x.go(4);
        x.see(3, 3, true);
        x.see(9, 0, false);
        x.out(0);
        x.see(2, 1, true);
        x.known(3);
        x.keep();
        x.seal(0);
        x.rack(0, 4);
        x.rack(0, 5);
        return x;
    }

    private static TemperCellar ladenWithTape() {
        TemperCellar x = laden();
        x.feed(0x6d616e20, 0x7a20393b, 0x6d616e20, 0x7920383b, 0x20202020);
        return x;
    }

    private static void refused(String name, Twins.Call call, long want) {
        Twins.stays(name, RefusedTest::ladenWithTape, call, want);
    }

    private static void textRefused() {
        TemperCellar x = laden();
        Due.due("a is LYING", x.bottle(0, 5), 0);
        Due.due("b is OFF", x.bottle(1, 5), 2);
        Due.due("c is OPENED", x.bottle(2, 5), 1);
        Due.due("somebody HATES", x.count(11), 1);
        Due.due("deeds to undo", x.count(14), 3);
        for (int n : new int[] {-1, 21, 40, FAR[0], FAR[1]}) {
            refused("text(" + n + ")", y -> y.text(n), -2);
        }
        Twins.stays("text(1) of no tape", RefusedTest::laden, y -> y.text(1), -2);
    }

    /** "NONE with a FAULT, all stays" */
    private static void textWithFault() {
        String[] texts = {"$", "man", "man z 10;", "man z 1;man z 2;", "bottle z y x 0 1 1;", "man z 1;bottle z z z 0 1 1;",
            "man z 1;man y 2;man x 3;man w 4;man v 5;man u 6;", "thunder 0;seed 1;law ages 9;law creep 9;law burst 1;man",
            "man q 1;man r 1;bottle a q r 5 99 9;bottle b q r 5 99 9;need q 0 0 0;thunder 1;seed 1;law ages 9999 9999;"};
        for (String text : texts) {
            Twins.staysButFault("text: " + text, RefusedTest::laden, x -> Due.tell(x, text), -1);
        }
    }

    /** "NONE, and none come" */
    private static void feedRefused() {
        Twins.stays("feed behind 700", RefusedTest::ladenWithFullTape, x -> x.feed(1, 2, 3, 4, 5), -1);
        TemperCellar x = ladenWithFullTape();
        x.feed(-1, -1, -1, -1, -1);
        Due.due("the tape is as it was", x.text(700), 1);
        Due.due("its text", x.man(0, 0), 9);
    }

    private static TemperCellar ladenWithFullTape() {
        TemperCellar x = laden();
        x.feed(0x6d616e20, 0x7a20393b, 0x20202020, 0x20202020, 0x20202020);
        for (int i = 1; i < 35; i++) {
            x.feed(0x20202020, 0x20202020, 0x20202020, 0x20202020, 0x0a0a0a0a);
        }
        return x;
    }

    private static void asksRefused() {
        for (int far : new int[] {-1, 99, FAR[0], FAR[1]}) {
            refused("fault(" + far + ")", x -> x.fault(far), -1);
            refused("named(" + far + ", ..)", x -> x.named(far, Due.letters("m")), -1);
            refused("named(0, " + far + ")", x -> x.named(0, far), -1);
            refused("bottle(" + far + ", 0)", x -> Twins.bottle(x, far, 0), Twins.NO_BOTTLE);
            refused("bottle(0, " + far + ")", x -> Twins.bottle(x, 0, far), Twins.NO_WHAT);
            refused("man(" + far + ", 0)", x -> x.man(far, 0), -1);
            refused("man(0, " + far + ")", x -> x.man(0, far), -1);
            refused("need(" + far + ", 0)", x -> x.need(far, 0), -1);
            refused("need(0, " + far + ")", x -> x.need(0, far), -1);
            refused("bin(" + far + ")", x -> x.bin(far), -1);
            refused("law(" + far + ", 0)", x -> x.law(far, 0), Long.MIN_VALUE);
            refused("law(0, " + far + ")", x -> x.law(0, far), Long.MIN_VALUE);
            refused("count(" + far + ")", x -> x.count(far), -1);
        }
        refused("law of one that is OFF", x -> x.law(0, 1), Long.MIN_VALUE);
        refused("law of one that is OPENED", x -> x.law(0, 2), Long.MIN_VALUE);
    }

    private static void deedsRefused() {
        refused("rack where it is", x -> x.rack(0, 5) ? 1 : 0, 0);
        refused("rack what is OFF", x -> x.rack(1, 5) ? 1 : 0, 0);
        refused("rack what is OPENED", x -> x.rack(2, 5) ? 1 : 0, 0);
        refused("seal what has", x -> x.seal(0), -2);
        refused("seal what is OFF", x -> x.seal(1), -2);
        refused("seal what is OPENED", x -> x.seal(2), -2);
        refused("open what is OFF", x -> x.open(1), -2);
        refused("open what is OPENED", x -> x.open(2), -2);
        for (int far : new int[] {-1, 4, FAR[0], FAR[1]}) {
            refused("rack(" + far + ", 1)", x -> x.rack(far, 1) ? 1 : 0, 0);
            refused("seal(" + far + ")", x -> x.seal(far), -1);
            refused("open(" + far + ")", x -> x.open(far), -1);
        }
        for (int far : new int[] {-1, 6, FAR[0], FAR[1]}) {
            refused("rack(0, " + far + ")", x -> x.rack(0, far) ? 1 : 0, 0);
        }
    }

    /** "NONE, and none does: no such number, behind 9900." */
    private static void goRefused() {
        for (int n : new int[] {-1, 100, FAR[0], FAR[1]}) {
            refused("go(" + n + ")", x -> x.go(n), -1);
        }
        refused("go(0)", x -> x.go(0), 4);
        Twins.stays("go(1) at 9900", RefusedTest::atTheEnd, x -> x.go(1), -1);
        Twins.stays("go(99) at 9900", RefusedTest::atTheEnd, x -> x.go(99), -1);
        Twins.stays("go(0) at 9900", RefusedTest::atTheEnd, x -> x.go(0), 9900);
    }

    private static TemperCellar atTheEnd() {
        TemperCellar x = Due.told("man m 3;man n 7;bottle a m n 0 10 9;bottle b n m 1 20 9;thunder 60;law creep 0;");
        for (int i = 0; i < 100; i++) {
            x.go(99);
        }
        x.rack(0, 3);
        x.open(1);
        return x;
    }

    private static void looksRefused() {
        for (int far : new int[] {-1, 100, FAR[0], FAR[1]}) {
            refused("ahead(" + far + ", 0, 0)", x -> x.ahead(far, 0, 0), -1);
            refused("ahead(1, " + far + ", 0)", x -> x.ahead(1, far, 0), -1);
            refused("ahead(1, 4, " + far + ")", x -> x.ahead(1, 4, far), -1);
            refused("firstOff(" + far + ")", x -> x.firstOff(far), -1);
            refused("chain(" + far + ")", x -> x.chain(far), -1);
            refused("racking(" + far + ", 0)", x -> x.racking(far, 0), -1);
            refused("racking(1, " + far + ")", x -> x.racking(1, far), -1);
        }
        refused("chain of what is OFF", x -> x.chain(1), -2);
        refused("chain of what is OPENED", x -> x.chain(2), -2);
        refused("racking of none", x -> x.racking(1, 3), -2);
    }

    private static void puzzlesRefused() {
        for (int far : new int[] {-1, 1000, FAR[0], FAR[1]}) {
            refused("serve(" + far + ")", x -> x.serve(far), -1);
            refused("pour(" + far + ", 199)", x -> x.pour(far, 199), -1);
            refused("pour(0, " + far + ")", x -> x.pour(0, far), -1);
            refused("ripe(" + far + ", 0)", x -> x.ripe(far, 0), -1);
            refused("ripe(0, " + far + ")", x -> x.ripe(0, far), -1);
            refused("dowry(" + far + ", 0)", x -> x.dowry(far, 0), -1);
            refused("dowry(0, " + far + ")", x -> x.dowry(0, far), -1);
            refused("rests(" + far + ", 0)", x -> x.rests(far, 0), -1);
            refused("rest(0, " + far + ", 0)", x -> x.rest(0, far, 0), -1);
            refused("lasts(" + far + ", 1, 0)", x -> x.lasts(far, 1, 0), -1);
            refused("lasts(0, " + far + ", 0)", x -> x.lasts(0, far, 0), -1);
            refused("lasts(0, 1, " + far + ")", x -> x.lasts(0, 1, far), -1);
        }
        refused("serve what has come", x -> x.serve(0), -1);
        refused("pour(5, 4)", x -> x.pour(5, 4), -1);
        refused("ripe of what is OPENED", x -> x.ripe(2, 0), -2);
        refused("rests of one", x -> x.rests(1, 1), -1);
        refused("rest of one", x -> x.rest(1, 1, 0), -1);
        refused("rest(0, 1, -1)", x -> x.rest(0, 1, -1), -1);
        refused("lasts of what is OFF", x -> x.lasts(1, 1, 0), -1);
    }

    private static void seenRefused() {
        for (int far : new int[] {-1, 61, FAR[0], FAR[1]}) {
            refused("see(" + far + ", 0, true)", x -> x.see(far, 0, true), -1);
            refused("see(1, " + far + ", true)", x -> x.see(1, far, true), -1);
            refused("out(" + far + ")", x -> x.out(far), -1);
            refused("corks(" + far + ")", x -> x.corks(far), -1);
        }
        refused("see(0, 0, true)", x -> x.see(0, 0, true), -1);
        refused("out of one to come", x -> x.out(4), -1);
        for (int n : new int[] {-2, 5, FAR[0], FAR[1]}) {
            refused("known(" + n + ")", x -> x.known(n) ? 1 : 0, 0);
        }
    }

    /** "or there are 24" */
    private static void seenFull() {
        Twins.stays("a 25th SEEN", RefusedTest::ladenWithSeen, x -> x.see(1, 0, true), -1);
        Twins.stays("a 25th that strikes", RefusedTest::ladenWithSeen, x -> x.out(0), -1);
        Twins.stays("known(25)", RefusedTest::ladenWithSeen, x -> x.known(25) ? 1 : 0, 0);
    }

    private static TemperCellar ladenWithSeen() {
        TemperCellar x = laden();
        for (int i = x.count(12); i < 24; i++) {
            x.see(8, 0, false);
        }
        return x;
    }

    private static void chancesRefused() {
        for (int far : new int[] {-1, FAR[0]}) {
            refused("chance(" + far + ", 1, 1)", x -> x.chance(far, 1, 1), -1);
        }
        for (int far : new int[] {-1, 100, FAR[0], FAR[1]}) {
            refused("chance(1, " + far + ", 1)", x -> x.chance(1, far, 1), -1);
            refused("chance(1, 1, " + far + ")", x -> x.chance(1, 1, far), -1);
            refused("tried(" + far + ", 0, 1)", x -> x.tried(far, 0, 1), -1);
            refused("tried(0, " + far + ", 1)", x -> x.tried(0, far, 1), -1);
            refused("tried(2, " + far + ", 1)", x -> x.tried(2, far, 1), -1);
            refused("tried(0, 0, " + far + ")", x -> x.tried(0, 0, far), -1);
        }
        refused("chance(1, 0, 1)", x -> x.chance(1, 0, 1), -1);
        refused("chance(1, 1, 11)", x -> x.chance(1, 1, 11), -1);
    }

    private static TemperCellar withNothingToUndo() {
        TemperCellar x = Due.told("man m 3;man n 7;bottle a m n 0 10 9;thunder 60;");
        x.rack(0, 3);
        x.go(1);
        return x;
    }

    private static void undoAndBackRefused() {
        Twins.stays("undo of none", RefusedTest::withNothingToUndo, TemperCellar::undo, -1);
        Twins.stays("back to no IMAGE", RefusedTest::withNothingToUndo, TemperCellar::back, -1);
        Twins.stays("back to no IMAGE with deeds", RefusedTest::atTheEnd, TemperCellar::back, -1);
    }

    private static void asked(String name, Twins.Call call) {
        refused(name, call, call.on(ladenWithTape()));
    }

    /** What only asks changes nothing either. */
    private static void asks() {
        asked("ahead(99, 0, 0)", x -> x.ahead(99, 0, 0));
        asked("ahead(9, 3, 0)", x -> x.ahead(9, 3, 0));
        asked("firstOff(1)", x -> x.firstOff(1));
        asked("chain(0)", x -> x.chain(0));
        asked("chain(3)", x -> x.chain(3));
        asked("racking(60, 4)", x -> x.racking(60, 4));
        asked("racking(1, 0)", x -> x.racking(1, 0));
        asked("serve(2)", x -> x.serve(2));
        asked("served()", TemperCellar::served);
        asked("pour(0, 199)", x -> x.pour(0, 199));
        asked("ripe(0, 199)", x -> x.ripe(0, 199));
        asked("dowry(0, 0)", x -> x.dowry(0, 0));
        asked("ring()", TemperCellar::ring);
        asked("rests(0, 1)", x -> x.rests(0, 1));
        asked("rest(0, 1, 0)", x -> x.rest(0, 1, 0));
        asked("lasts(0, 5, 0)", x -> x.lasts(0, 5, 0));
        asked("corks(3)", x -> x.corks(3));
        asked("chance(5, 99, 1)", x -> x.chance(5, 99, 1));
        for (int what = 0; what <= 5; what++) {
            int tried = what;
            asked("tried(" + what + ", 0, 99)", x -> x.tried(tried, 0, 99));
        }
        asked("tried(2, 1, 99)", x -> x.tried(2, 1, 99));
        asked("law(0, 0)", x -> x.law(0, 0));
    }
}
