import java.nio.charset.StandardCharsets;

/** Promises 1 to 5: a new object, feed, text, fault, named. */
public final class TextTest {
    private static final String TWO = "man m 0;man n 0;";

    public static void main(String[] args) {
        newObject();
        feed();
        text();
        cutText();
        textStays();
        tokens();
        numbers();
        tooMany();
        knots();
        parentheses();
        toldAlready();
        people();
        expressions();
        named();
        Due.end();
    }

    private static void newObject() {
        TemperCellar x = new TemperCellar();
        for (int what = 0; what <= 14; what++) {
            Due.due("new: count(" + what + ")", x.count(what), 0);
        }
        Due.due("new: fault(0)", x.fault(0), 0);
        Due.due("new: fault(1)", x.fault(1), -1);
        Due.due("new: text(1)", x.text(1), -2);
        Due.due("new: text(0)", x.text(0), 0);
        Due.due("new: bottle's CORKS", x.corks(0), -1);
        Due.due("new: served()", x.served(), 0);
        Due.due("new: go(99)", x.go(99), 99);
    }

    private static void feed() {
        TemperCellar x = new TemperCellar();
        for (int n = 20; n <= 700; n += 20) {
            Due.due("feed up to " + n, x.feed(-1, 0, 1, Integer.MIN_VALUE, 7), n);
        }
        Due.due("feed behind 700", x.feed(0, 0, 0, 0, 0), -1);
        Due.due("feed behind 700 again", x.feed(0, 0, 0, 0, 0), -1);
        Due.due("text(701)", x.text(701), -2);
        Due.due("the tape stays", x.feed(0, 0, 0, 0, 0), -1);
        Due.due("text(700) of bytes that are no text", x.text(700), -1);
        Due.due("its place", x.fault(1), 0);
        Due.due("the tape is empty", x.feed(0, 0, 0, 0, 0), 20);

        Due.fault("1;".repeat(350), 1, 0);
        Due.fault(";1".repeat(350), 1, 0);
        Due.due("the longest text", Due.told("thunder 5;" + " ".repeat(683) + "seed 7;").count(4), 0);
        x = new TemperCellar();
        Due.due("the highest byte first", x.feed(0x6d616e20, 0x6d20373b, 0x20202020, 0x20202020, 0x0a0a0a0a), 20);
        Due.due("text of it", x.text(20), 1);
        Due.due("HOT", x.man(0, 0), 7);
    }

    private static void text() {
        TemperCellar x = new TemperCellar();
        Due.due("a text of blanks", Due.tell(x, " \n \n"), 0);
        Due.due("lines", Due.tell(x, TWO + "bottle b m n 0 1 1;need m 0 0 0;thunder 0;seed 0;law ages 1;"), 7);
        Due.due("tokens without blanks", Due.tell(x, "man m5;man\nn7;bottle b m n 0 1 1;"), 3);
        Due.due("HOT of m", x.man(0, 0), 5);
        Due.due("HOT of n", x.man(1, 0), 7);
        Due.due("digits ahead", Due.tell(x, "man m 0000000000000000000000000000000000000009;"), 1);
        Due.due("HOT", x.man(0, 0), 9);
        Due.due("the edges", Due.tell(x, "man m 9;man n 0;bottle abcdef m n 5 99 9;bottle m n m 0 1 1;"
                + "need m 99 199 199;need n 0 0 0;thunder 100;seed 99999;law burst 9999;"), 9);
        Due.due("its fault", x.fault(0), 0);
        Due.due("its place", x.fault(1), -1);
        Due.due("need from", x.need(0, 2), 199);
        Due.due("fault(2)", x.fault(2), -1);
        Due.due("fault(-1)", x.fault(-1), -1);

        Due.feed(x, "man q 1;man r 2;     ".getBytes(StandardCharsets.ISO_8859_1));
        Due.due("text(41)", x.text(41), -2);
        Due.due("text(-1)", x.text(-1), -2);
        Due.due("nothing is told by it", x.count(0), 2);
        Due.due("the first bytes alone", x.text(8), 1);
        Due.due("people", x.count(0), 1);
        Due.due("the rest is gone", x.text(1), -2);
    }

    /** What stands behind the first n bytes belongs to no TOKEN. */
    private static void cutText() {
        cut("man m 10;", 7, 1, 7);
        cut("man m 0;", 2, 1, 0);
        cut("man m 0;men", 8, 0, -1);
        cut("seed 1;law ages 1<=2;", 18, 1, 18);
    }

    private static void cut(String text, int n, int fault, int place) {
        TemperCellar x = new TemperCellar();
        Due.feed(x, text.getBytes(StandardCharsets.ISO_8859_1));
        x.text(n);
        Due.due("fault of the first " + n + " of " + text, x.fault(0), fault);
        Due.due("place of the first " + n + " of " + text, x.fault(1), place);
    }

    /** A FAULT leaves all as it is; a TEXT without one starts all anew. */
    private static void textStays() {
        TemperCellar x = Due.told(TWO + "bottle a m n 0 10 2;bottle b n m 0 20 9;need m 0 20 30;thunder 100;");
        Due.due("rack", x.rack(0, 3), true);
        Due.due("see", x.see(1, 0, true), 0);
        Due.due("known", x.known(0), true);
        Due.due("keep", x.keep(), 0);
        Due.due("go", x.go(1), 1);
        Due.due("rack", x.rack(0, 1), true);
        Due.due("a text with a fault", Due.tell(x, "man m 0;man"), -1);
        Due.due("its fault", x.fault(0), 1);
        Due.due("its place", x.fault(1), 11);
        Due.due("the year stays", x.count(4), 1);
        Due.due("who hates whom stays", x.man(0, 3), 1);
        Due.due("seen stays", x.count(12), 1);
        Due.due("known stays", x.count(13), 0);
        Due.due("undo stays", x.undo(), 0);
        Due.due("the image stays", x.back(), 0);
        Due.due("text(1)", x.text(1), -2);
        Due.due("the fault stays behind -2", x.fault(0), 1);

        Due.due("go", x.go(1), 1);
        Due.due("rack", x.rack(0, 1), true);
        Due.due("a text again", Due.tell(x, TWO + "bottle a m n 4 10 2;seed 5;"), 4);
        Due.due("fault", x.fault(0), 0);
        for (int what : new int[] {2, 3, 4, 6, 7, 8, 9, 10, 11, 12, 13, 14}) {
            Due.due("count(" + what + ") of a new text", x.count(what), 0);
        }
        Due.due("no image", x.back(), -1);
        Due.due("nothing to undo", x.undo(), -1);
        Due.due("lying", x.bin(4), 1);
        Due.due("all known", x.see(1, 0, true) + x.count(13), 1);
    }

    private static void tokens() {
        Due.fault("men m 0;", 1, 0);
        Due.fault(";", 1, 0);
        Due.fault("man m 0;;", 1, 8);
        Due.fault("man", 1, 3);
        Due.fault("man m", 1, 5);
        Due.fault("man m 0", 1, 7);
        Due.fault("man m 0  \n", 1, 10);
        Due.fault("man m 0 0;", 1, 8);
        Due.fault("man 0 m;", 1, 4);
        Due.fault("man m m;", 1, 6);
        Due.fault("man abcdefg 0;", 1, 4);
        Due.fault("man thunder 0;", 1, 4);
        Due.fault("man year 0;", 1, 4);
        Due.fault("man or 0;", 1, 4);
        Due.fault("man Ann 0;", 1, 4);
        Due.fault("man m\t0;", 1, 5);
        Due.fault("man m 0\r;", 1, 7);
        Due.fault("man m -1;", 1, 6);
        Due.fault("man m (0);", 1, 6);
        Due.fault("man m 0;$", 1, 8);
        Due.fault("man m 0;" + (char) 233, 1, 8);
        Due.fault("man m 0;" + (char) 0, 1, 8);
        Due.fault("manm 0;", 1, 0);
        Due.fault("bottles a m n 0 1 1;", 1, 0);
        Due.fault("law", 1, 3);
        Due.fault("law man 1;", 1, 4);
        Due.fault("law a 1;", 1, 4);
        Due.fault("law ages;", 1, 8);
        Due.fault("law ages", 1, 8);
        Due.fault(TWO + "bottle bin m n 0 1 1;", 1, 23);
        Due.fault(TWO + "bottle a need n 0 1 1;", 1, 25);
        Due.fault(TWO + "need hot 0 0 0;", 1, 21);
        Due.fault("thunder;", 1, 7);
        Due.fault("seed x;", 1, 5);
        Due.fault("man m 10$;", 2, 6);
    }

    private static void numbers() {
        Due.fault("man m 10;", 2, 6);
        Due.fault("man m 99999999999999999999999999;", 2, 6);
        Due.fault("man m 4294967296;", 2, 6);
        Due.fault(TWO + "bottle a m n 6 1 1;", 2, 29);
        Due.fault(TWO + "bottle a m n 0 0 1;", 2, 31);
        Due.fault(TWO + "bottle a m n 0 100 1;", 2, 31);
        Due.fault(TWO + "bottle a m n 0 1 0;", 2, 33);
        Due.fault(TWO + "bottle a m n 0 1 10;", 2, 33);
        Due.fault(TWO + "need m 100 0 0;", 2, 23);
        Due.fault(TWO + "need m 0 200 200;", 2, 25);
        Due.fault(TWO + "need m 0 0 200;", 2, 27);
        Due.fault(TWO + "need m 0 5 4;", 2, 27);
        Due.fault("thunder 101;", 2, 8);
        Due.fault("seed 100000;", 2, 5);
        Due.fault("law ages 10000;", 2, 9);
        Due.fault("law ages 1 10000;", 1, 11);
    }

    private static void tooMany() {
        StringBuilder people = new StringBuilder();
        for (char c = 'a'; c <= 'e'; c++) {
            people.append("man ").append(c).append(" 1;");
        }
        Due.due("five people", Due.told(people.toString()).count(0), 5);
        Due.fault(people + "man", 2, 40);
        Due.fault(people + " man a 1;", 2, 41);
        StringBuilder bottles = new StringBuilder(TWO);
        for (char c = 'a'; c <= 'j'; c++) {
            bottles.append("bottle ").append(c).append(" m n 0 1 1;");
        }
        Due.due("ten bottles", Due.told(bottles.toString()).count(1), 10);
        Due.fault(bottles + "bottle 1", 2, bottles.length());
        StringBuilder needs = new StringBuilder(TWO);
        for (int i = 0; i < 8; i++) {
            needs.append("need m 0 0 0;");
        }
        Due.due("eight needs", Due.told(needs.toString()).count(2), 8);
        Due.fault(needs + "need m 0 0 0;", 2, needs.length());
    }

    private static void knots() {
        String most = "1" + "+1".repeat(31);
        Due.due("63 knots", Due.told("law ages " + most + ";").count(3), 63);
        Due.due("64 knots", Due.told("law ages not " + most + ";").count(3), 64);
        Due.fault("law ages " + most + "+1;", 2, 9 + 64);
        Due.fault("law ages " + most + "+(1);", 2, 9 + 65);
        Due.fault("law ages not " + most + "+1;", 2, 13 + 63);
        Due.fault("law ages not " + most + "+;", 2, 13 + 63);
        Due.fault("law ages not " + most + " 1;", 1, 13 + 64);
        Due.fault("law ages " + most + "+ +;", 1, 9 + 65);
        Due.due("64 knots of three laws",
                Due.told("law ages not 1;law burst " + "1+".repeat(29) + "1;law creep 2*3;").count(3), 64);
        Due.fault("law ages not not 1;law burst " + "1+".repeat(29) + "1;law creep 2*3;", 2, 101);
        Due.fault("law ages " + "not ".repeat(64) + "1;", 2, 9 + 256);
        Due.fault("law ages " + "not ".repeat(65) + "1;", 2, 9 + 256);
        Due.due("63 nots", Due.told("law ages " + "not ".repeat(63) + "1;").count(3), 64);
        Due.due("two signs are one knot", Due.told("law ages 1<>2;").count(3), 3);
    }

    private static void parentheses() {
        Due.due("eight open", Due.told("law ages " + "(".repeat(8) + "1" + ")".repeat(8) + ";").count(3), 1);
        Due.fault("law ages " + "(".repeat(9) + "1" + ")".repeat(9) + ";", 2, 17);
        Due.due("nine that are not open at once", Due.told("law ages " + "(1)+".repeat(9) + "1;").count(3), 19);
        Due.fault("law ages (1;", 1, 11);
        Due.fault("law ages (1", 1, 11);
        Due.fault("law ages 1);", 1, 10);
        Due.fault("law ages ();", 1, 10);
    }

    private static void toldAlready() {
        Due.fault("man m 0;man m 0;", 3, 12);
        Due.fault("man m 0;man m 10;", 3, 12);
        Due.fault(TWO + "bottle a m n 0 1 1;bottle a m n 0 1 1;", 3, 42);
        Due.fault("thunder 1; thunder 1;", 3, 11);
        Due.fault("seed 1;seed 1;", 3, 7);
        Due.fault("law creep 1;law ages 1;law creep 1;", 3, 27);
        Due.fault("law creep 1;law ages 1;law burst 1;law ages", 3, 39);
        Due.due("a bottle by a person's name", Due.told(TWO + "bottle m m n 0 1 1;").count(1), 1);
    }

    private static void people() {
        Due.fault("bottle a m n 0 1 1;", 4, 9);
        Due.fault("man m 0;bottle a m n 0 1 1;man n 0;", 4, 19);
        Due.fault("man m 0;bottle a m m 0 1 1;", 5, 19);
        Due.fault("need m 0 0 0;", 4, 5);
        Due.fault(TWO + "need o 100 0 0;", 4, 21);
        Due.fault(TWO + "bottle a m n 0 1 1;need a 0 0 0;", 4, 40);
    }

    private static void expressions() {
        Due.fault("law ages +1;", 1, 9);
        Due.fault("law ages 1+;", 1, 11);
        Due.fault("law ages 1 1;", 1, 11);
        Due.fault("law ages 1<2<3;", 1, 12);
        Due.fault("law ages 1< =2;", 1, 12);
        Due.fault("law ages 1> =2;", 1, 12);
        Due.fault("law ages 1< >2;", 1, 12);
        Due.fault("law ages 1><2;", 1, 11);
        Due.fault("law ages 1=<2;", 1, 11);
        Due.fault("law ages 1==2;", 1, 11);
        Due.fault("law ages 1<==2;", 1, 12);
        Due.fault("law ages 1+not 2;", 1, 11);
        Due.fault("law ages 1<not 2;", 1, 11);
        Due.fault("law ages not;", 1, 12);
        Due.fault("law ages 1 not 2;", 1, 11);
        Due.fault("law ages 1 and;", 1, 14);
        Due.fault("law ages and 1;", 1, 9);
        Due.fault("law ages 1 or or 2;", 1, 14);
        Due.fault("law ages strong;", 1, 9);
        Due.fault("law ages thunder;", 1, 9);
        Due.fault("law ages 1;law creep ages;", 1, 21);
        Due.due("all of it", Due.told("law ages (1<2)=(3<>4) and not(not 5)or 6*7/8-9+force;").count(3), 21);
    }

    private static void named() {
        TemperCellar x = Due.told("man ann 0;man bo 0;man abcdef 0;bottle ann ann bo 0 1 1;bottle z ann bo 0 1 1;");
        Due.due("named(0, ann)", x.named(0, Due.letters("ann")), 0);
        Due.due("named(0, bo)", x.named(0, Due.letters("bo")), 1);
        Due.due("named(0, abcdef)", x.named(0, Due.letters("abcdef")), 2);
        Due.due("named(1, ann)", x.named(1, Due.letters("ann")), 0);
        Due.due("named(1, z)", x.named(1, 26 << 25), 1);
        Due.due("named(0, z)", x.named(0, 26 << 25), -1);
        Due.due("named(1, bo)", x.named(1, Due.letters("bo")), -1);
        Due.due("named(0, nothing)", x.named(0, 0), -1);
        Due.due("named(0, -1)", x.named(0, -1), -1);
        Due.due("letters at the low end", x.named(1, 26), -1);
        Due.due("two bits too many", x.named(1, 26 << 25 | 1 << 30), -1);
        Due.due("named(2, ann)", x.named(2, Due.letters("ann")), -1);
        Due.due("named(-1, ann)", x.named(-1, Due.letters("ann")), -1);
    }
}
