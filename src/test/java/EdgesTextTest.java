import java.nio.charset.StandardCharsets;

/** The edges that 'Terms' and promises 1 to 5 name: the last that is taken, the first that is refused. */
public final class EdgesTextTest {
    private static final String TWO = "man m 0;man n 0;";
    private static final String FEUD = TWO + "man o 0;bottle a m n 0 10 1;bottle b m o 1 20 9;bottle c n m 1 30 9;bottle d m n 1 90 9;thunder 100;"
            + "need o 0 30 99;need n 0 0 199;law ages load;law burst hated;";
    private static final String[] LANGUAGE = {"man", "bottle", "need", "thunder", "seed", "law", "ages", "creep",
        "burst", "force", "cork", "hated", "bin", "hot", "load", "year", "or", "and", "not"};
    private static final String[] NAMES = {"force", "cork", "hated", "bin", "hot", "load", "year"};
    private static final String[] SIGNS = {"+", "-", "*", "/", "<", "<=", "=", "<>", ">=", ">", " and ", " or "};

    public static void main(String[] args) {
        tapeUpTo700();
        bytesOfEachNumber();
        textUpToTheTape();
        lettersOfWords();
        wordsOfTheLanguage();
        rulesOfLaws();
        bytesBetween();
        bytesInNumbers();
        bytesInWords();
        numbers();
        numbersAsTold();
        lastNoLess();
        howMany();
        howManyOneAhead();
        oneKnotEach();
        knot65();
        ninthOpen();
        signsOfTwo();
        oneComparison();
        toldAlready();
        personToldAhead();
        atWhomItIs();
        leastOfOnePlace();
        firstAlongTheText();
        lengthIfMoreMustCome();
        withoutThunderAndSeed();
        faultOfTheLatest();
        namedByLetters();
        textAnew();
        textAgainAndAgain();
        Due.end();
    }

    private static void taken(String text, int lines) {
        TemperCellar x = new TemperCellar();
        Due.due("text: " + text, Due.tell(x, text), lines);
        Due.due("fault(0) of " + text, x.fault(0), 0);
        Due.due("fault(1) of " + text, x.fault(1), -1);
    }

    /** "NONE, and none come, if it would have more than 700." */
    private static void tapeUpTo700() {
        String text = "man a 1;" + " ".repeat(672) + "man b 2;\n\n\n\nman c 3;";
        byte[] bytes = text.getBytes(StandardCharsets.ISO_8859_1);
        Due.due("bytes", bytes.length, 700);
        TemperCellar x = new TemperCellar();
        Due.feed(x, bytes);
        Due.due("a 701st", x.feed(-1, -1, -1, -1, -1), -1);
        Due.due("none came", x.text(701), -2);
        Due.due("all 700", x.text(700), 3);
        Due.due("the last of them", x.man(2, 0), 3);

        x = new TemperCellar();
        for (int i = 1; i <= 34; i++) {
            x.feed(0x20202020, 0x20202020, 0x20202020, 0x20202020, 0x20202020);
        }
        Due.due("680", x.text(681), -2);
        Due.due("up to 700", x.feed(0x20202020, 0x20202020, 0x20202020, 0x20202020, 0x20202020), 700);
        Due.due("all of it", x.text(700), 0);
    }

    /** "Twenty bytes come behind the TAPE, four of each number, the highest first" */
    private static void bytesOfEachNumber() {
        TemperCellar x = new TemperCellar();
        Due.feed(x, "man abcd 7;man e 8;\n".getBytes(StandardCharsets.ISO_8859_1));
        Due.due("lines", x.text(20), 2);
        Due.due("abcd", x.named(0, Due.letters("abcd")), 0);
        Due.due("e", x.man(1, 0), 8);
        for (int at = 0; at < 20; at++) {
            byte[] bytes = " ".repeat(20).getBytes(StandardCharsets.ISO_8859_1);
            bytes[at] = (byte) 160;
            x = new TemperCellar();
            Due.feed(x, bytes);
            Due.due("byte 160 at " + at, x.text(20), -1);
            Due.due("its place", x.fault(1), at);
            Due.feed(x, bytes);
            Due.due("not among the first " + at, x.text(at), 0);
        }
    }

    /** "-2, and the TAPE stays: there are not so many, n is below 0." */
    private static void textUpToTheTape() {
        TemperCellar x = new TemperCellar();
        Due.due("an empty tape", x.text(1), -2);
        Due.feed(x, "man a 1;man b 2;    ".getBytes(StandardCharsets.ISO_8859_1));
        for (int n : new int[] {21, 700, 701, Integer.MAX_VALUE, -1, Integer.MIN_VALUE}) {
            Due.due("text(" + n + ")", x.text(n), -2);
            Due.due("fault(0)", x.fault(0), 0);
            Due.due("no people", x.count(0), 0);
        }
        Due.due("the tape stays", x.text(20), 2);
        Due.due("it is empty then", x.text(1), -2);
        Due.due("a text of none", x.text(0), 0);
        Due.due("no people", x.count(0), 0);
        Due.feed(x, "man a 1;man b 2;    ".getBytes(StandardCharsets.ISO_8859_1));
        Due.due("the first none of twenty", x.text(0), 0);
        Due.due("it is empty then", x.feed(0, 0, 0, 0, 0), 20);
        Due.due("with a fault", x.text(1), -1);
        Due.due("it is empty then, too", x.feed(0, 0, 0, 0, 0), 20);
    }

    /** "W: one of 1 .. 6 letters"; "a word of more than 6 letters that is none of the language, too" */
    private static void lettersOfWords() {
        taken("man a 0;man z 0;man abcdef 0;man zzzzzz 0;", 4);
        Due.fault("man abcdefg 0;", 1, 4);
        Due.fault("man zzzzzzz 0;", 1, 4);
        Due.fault("man abcdef 0;man abcdefg 0;", 1, 17);
        Due.fault("man " + "a".repeat(600) + " 0;", 1, 4);
        taken(TWO + "bottle abcdef m n 0 1 1;", 3);
        Due.fault(TWO + "bottle abcdefg m n 0 1 1;", 1, 23);
        taken("man mmmmmm 0;man nnnnnn 0;bottle b mmmmmm nnnnnn 0 1 1;need nnnnnn 0 0 0;", 4);
        Due.fault("man mmmmmm 0;man nnnnnn 0;bottle b mmmmmmm nnnnnn 0 1 1;", 1, 35);
        Due.fault("man mmmmmm 0;man nnnnnn 0;bottle b mmmmmm nnnnnnn 0 1 1;", 1, 42);
        Due.fault("man mmmmmm 0;need mmmmmmm 0 0 0;", 1, 18);
        taken("thunder 0;", 1);
        Due.fault("thunders 0;", 1, 0);
        Due.fault("thunde 0;", 1, 0);
        Due.fault("law ages forces;", 1, 9);
    }

    /** "none of those of the language" */
    private static void wordsOfTheLanguage() {
        for (String word : LANGUAGE) {
            Due.fault("man " + word + " 0;", 1, 4);
            Due.fault(TWO + "bottle " + word + " m n 0 1 1;", 1, 23);
            Due.fault(TWO + "bottle b " + word + " n 0 1 1;", 1, 25);
            Due.fault(TWO + "bottle b m " + word + " 0 1 1;", 1, 27);
            Due.fault(TWO + "need " + word + " 0 0 0;", 1, 21);
            String less = word.substring(1);
            taken("man " + less + " 0;", 1);
            String changed = (word.charAt(0) == 'z' ? 'y' : 'z') + less;
            if (changed.length() <= 6) {
                taken("man " + changed + " 0;", 1);
            }
            if (word.length() < 6) {
                taken("man " + word + "x 0;", 1);
            }
        }
        for (int i = 6; i < LANGUAGE.length; i++) {
            Due.fault(LANGUAGE[i] + " 1;", 1, 0);
        }
    }

    /** "RULE: ages | creep | burst." */
    private static void rulesOfLaws() {
        for (String word : LANGUAGE) {
            boolean isRule = word.equals("ages") || word.equals("creep") || word.equals("burst");
            if (isRule) {
                taken("law " + word + " 1;", 1);
            } else {
                Due.fault("law " + word + " 1;", 1, 4);
            }
        }
        Due.fault("law;", 1, 3);
        Due.fault("law 1;", 1, 4);
        Due.fault("law (1);", 1, 4);
        Due.fault("law age 1;", 1, 4);
    }

    /** "Blanks 10, 32." */
    private static void bytesBetween() {
        for (int sign = 0; sign <= 255; sign++) {
            String text = "man m 0;" + (char) sign;
            if (sign == 10 || sign == 32) {
                taken(text, 1);
            } else {
                Due.fault(text, 1, 8);
            }
        }
    }

    /** "N: digits." */
    private static void bytesInNumbers() {
        for (int sign = 0; sign <= 255; sign++) {
            String text = "man m 1" + (char) sign + ";";
            if (sign == 10 || sign == 32) {
                taken(text, 1);
            } else if (sign >= '0' && sign <= '9') {
                Due.fault(text, 2, 6);
            } else {
                Due.fault(text, 1, sign == ';' ? 8 : 7);
            }
        }
    }

    /** "Words: small letters in a row" */
    private static void bytesInWords() {
        for (int sign = 0; sign <= 255; sign++) {
            String text = "man b" + (char) sign + " 1;";
            if (sign == 10 || sign == 32 || sign >= 'a' && sign <= 'z') {
                taken(text, 1);
            } else {
                Due.fault(text, 1, sign >= '0' && sign <= '9' ? 7 : 5);
            }
        }
    }

    /** "2 too much (at it): a number beyond what is said" */
    private static void numbers() {
        edges("man m #;", 0, 9);
        edges(TWO + "bottle b m n # 1 1;", 0, 5);
        edges(TWO + "bottle b m n 0 # 1;", 1, 99);
        edges(TWO + "bottle b m n 0 1 #;", 1, 9);
        edges(TWO + "need m # 0 0;", 0, 99);
        edges(TWO + "need m 0 # 199;", 0, 199);
        edges(TWO + "need m 0 0 #;", 0, 199);
        edges("thunder #;", 0, 100);
        edges("seed #;", 0, 99999);
        for (String rule : new String[] {"ages", "creep", "burst"}) {
            edges("law " + rule + " #;", 0, 9999);
            edges("law " + rule + " not (year<2*#);", 0, 9999);
        }
    }

    private static void edges(String text, long least, long most) {
        int place = text.indexOf('#');
        int lines = (int) text.chars().filter(sign -> sign == ';').count();
        taken(text.replace("#", "" + least), lines);
        taken(text.replace("#", "" + most), lines);
        taken(text.replace("#", "0".repeat(40) + most), lines);
        Due.fault(text.replace("#", "" + (most + 1)), 2, place);
        Due.fault(text.replace("#", "0".repeat(40) + (most + 1)), 2, place);
        if (least > 0) {
            Due.fault(text.replace("#", "" + (least - 1)), 2, place);
        }
        String[] wrapped = {"2147483647", "2147483648", "" + ((1L << 31) + most), "" + ((1L << 32) + least),
            "" + ((1L << 32) + most), "9223372036854775808", "18446744073709551617", "1" + "0".repeat(60)};
        for (String number : wrapped) {
            Due.fault(text.replace("#", number), 2, place);
        }
        Due.fault(text.replace("#", "-1"), 1, place);
    }

    private static void numbersAsTold() {
        TemperCellar x = Due.told("man m 0;man n 9;bottle a m n 0 1 1;bottle b n m 5 99 9;need m 0 0 0;"
                + "need n 99 199 199;law ages 0;law creep 9999;");
        Due.due("HOT", x.man(0, 0) * 10 + x.man(1, 0), 9);
        Due.due("BIN", x.bottle(0, 2) * 10 + x.bottle(1, 2), 5);
        Due.due("STRENGTH", x.bottle(0, 3) * 100 + x.bottle(1, 3), 199);
        Due.due("CORK", x.bottle(0, 4) * 10 + x.bottle(1, 4), 19);
        for (int what = 1; what <= 3; what++) {
            Due.due("need(0, " + what + ")", x.need(0, what), 0);
            Due.due("need(1, " + what + ")", x.need(1, what), what == 1 ? 99 : 199);
        }
        Due.due("ages", x.law(0, 0), 0);
        Due.due("creep", x.law(1, 0), 9999);
    }

    /** "of a NEED: a last one below its first one, too" */
    private static void lastNoLess() {
        edges(TWO + "need m 0 57 #;", 57, 199);
        edges(TWO + "need m 0 1 #;", 1, 199);
        edges(TWO + "need m 0 199 #;", 199, 199);
        Due.fault(TWO + "need m 0 57 0;", 2, 28);
    }

    private static String people(int count) {
        StringBuilder text = new StringBuilder();
        for (int i = 0; i < count; i++) {
            text.append("man p").append((char) ('a' + i)).append(' ').append(i).append(';');
        }
        return text.toString();
    }

    private static String bottles(int count) {
        StringBuilder text = new StringBuilder();
        for (int i = 0; i < count; i++) {
            text.append("bottle b").append((char) ('a' + i)).append(" pa pb 0 ").append(i + 1).append(" 1;");
        }
        return text.toString();
    }

    private static String needs(int count) {
        StringBuilder text = new StringBuilder();
        for (int i = 0; i < count; i++) {
            text.append("need pb ").append(i).append(" 0 0;");
        }
        return text.toString();
    }

    /** "PEOPLE (man), at most 5", "BOTTLES, at most 10", "NEEDS, at most 8"; "a sixth man and so on (at the word of the LINE)" */
    private static void howMany() {
        String most = people(5) + bottles(10) + needs(8);
        TemperCellar x = Due.told(most);
        Due.due("people", x.count(0), 5);
        Due.due("bottles", x.count(1), 10);
        Due.due("needs", x.count(2), 8);
        Due.due("the fifth", x.man(4, 0), 4);
        Due.due("the tenth", x.bottle(9, 3), 10);
        Due.due("the eighth", x.need(7, 1), 7);
        Due.due("named", x.named(0, Due.letters("pe")), 4);
        Due.due("named", x.named(1, Due.letters("bj")), 9);
        int place = most.length();
        Due.fault(most + "man pf 0;", 2, place);
        Due.fault(most + "bottle bk pa pb 0 1 1;", 2, place);
        Due.fault(most + "need pb 0 0 0;", 2, place);
        Due.fault(most + " \n man", 2, place + 3);
        Due.fault(most + "bottle", 2, place);
        Due.fault(most + "need;", 2, place);
        taken(most + "thunder 1;seed 1;law ages 1;law creep 1;law burst 1;", 28);
    }

    private static void howManyOneAhead() {
        taken(people(4) + "man pf 0;", 5);
        taken(people(2) + bottles(9) + "bottle bk pa pb 0 1 1;", 12);
        taken(people(2) + needs(7) + "need pb 0 0 0;", 10);
        Due.fault(people(5) + "man pf 0;", 2, people(5).length());
        Due.fault(people(2) + bottles(10) + "bottle bk pa pb 0 1 1;", 2, people(2).length() + bottles(10).length());
        Due.fault(people(2) + needs(8) + "need pb 0 0 0;", 2, people(2).length() + needs(8).length());
    }

    /** "KNOT of all E (N, NAMES, signs, not, and, or: one each)" */
    private static void oneKnotEach() {
        for (String sign : SIGNS) {
            Due.due("KNOTS of 1" + sign + "2", Due.told("law ages 1" + sign + "2;").count(3), 3);
        }
        for (String name : NAMES) {
            Due.due("KNOTS of " + name, Due.told("law ages " + name + ";").count(3), 1);
        }
        Due.due("KNOTS of not", Due.told("law ages not not 1;").count(3), 3);
        Due.due("KNOTS of (", Due.told("law ages ((1));").count(3), 1);
        Due.due("KNOTS of all laws", Due.told("law ages 1;law creep 1+1;law burst not 1;").count(3), 6);
        Due.due("KNOTS without laws", Due.told("man m 0;").count(3), 0);
    }

    /** "a 65th KNOT of all E" */
    private static void knot65() {
        String full = "not 1" + "+1".repeat(31);
        String toCome = "1 or ".repeat(32);
        Due.due("64 KNOTS", Due.told("law ages " + full + ";").count(3), 64);
        for (String sign : SIGNS) {
            int blanks = sign.startsWith(" ") ? 1 : 0;
            Due.fault("law ages " + full + sign + "1;", 2, 9 + full.length() + blanks);
            String most = "not 1" + " or 1".repeat(30) + sign + "1";
            Due.due("KNOTS of " + most, Due.told("law ages " + most + ";").count(3), 64);
        }
        for (String last : new String[] {"1", "not 1", "force", "cork", "hated", "bin", "hot", "load", "year"}) {
            Due.fault("law ages " + toCome + last + ";", 2, 9 + toCome.length());
            Due.fault("law ages " + toCome + "((" + last + "));", 2, 9 + toCome.length() + 2);
        }
        taken("law ages " + "1 or ".repeat(31) + "not 1;", 1);
        taken("law ages " + "1 or ".repeat(31) + "not ((((((((year))))))));", 1);
        String half = "1" + "+1".repeat(15);
        taken("law ages " + half + ";law creep " + half + ";law burst not 1;", 3);
        String three = "law ages " + half + ";law creep " + half + ";law burst not ";
        Due.fault(three + "not 1;", 2, three.length() + 4);
        Due.fault(three + "1+1;", 2, three.length() + 1);
    }

    /** "a ninth '(' open" */
    private static void ninthOpen() {
        for (String rule : new String[] {"ages", "creep", "burst"}) {
            String law = "law " + rule + " ";
            taken(law + "(".repeat(8) + "1" + ")".repeat(8) + ";", 1);
            Due.fault(law + "(".repeat(9) + "1" + ")".repeat(9) + ";", 2, law.length() + 8);
            taken(law + "(1+".repeat(8) + "1" + ")".repeat(8) + "*(1);", 1);
            Due.fault(law + "(1+".repeat(8) + "(1)" + ")".repeat(8) + ";", 2, law.length() + 24);
            taken(law + "(not ".repeat(8) + "1" + ")".repeat(8) + ";", 1);
            Due.fault(law + "(not ".repeat(8) + "(", 2, law.length() + 40);
            taken(law + "(((((((" + "(1)+(2)" + ")))))))" + ";", 1);
            Due.fault(law + "(((((((" + "(1)+((2))" + ")))))))" + ";", 2, law.length() + 12);
        }
        taken("law ages ((((((((1))))))));law creep ((((((((1))))))));law burst ((((((((1))))))));", 3);
    }

    /** "A = (or > behind <) right behind < or > belongs to it." */
    private static void signsOfTwo() {
        taken("law ages 1<=2;", 1);
        taken("law ages 1>=2;", 1);
        taken("law ages 1<>2;", 1);
        for (String blank : new String[] {" ", "\n"}) {
            Due.fault("law ages 1<" + blank + "=2;", 1, 12);
            Due.fault("law ages 1>" + blank + "=2;", 1, 12);
            Due.fault("law ages 1<" + blank + ">2;", 1, 12);
        }
        Due.fault("law ages 1><2;", 1, 11);
        Due.fault("law ages 1=>2;", 1, 11);
        Due.fault("law ages 1=<2;", 1, 11);
        Due.fault("law ages 1>>2;", 1, 11);
        Due.fault("law ages 1<<2;", 1, 11);
        Due.fault("law ages 1>==2;", 1, 12);
        Due.fault("law ages 1<==2;", 1, 12);
        Due.fault("law ages 1<", 1, 11);
        Due.fault("law ages 1>", 1, 11);
        Due.fault("law ages 1<=", 1, 12);
    }

    /** "C: S [ ( < | <= | = | <> | >= | > ) S ]." */
    private static void oneComparison() {
        for (int i = 4; i < 10; i++) {
            for (int j = 4; j < 10; j++) {
                Due.fault("law ages 1" + SIGNS[i] + "2" + SIGNS[j] + "3;", 1, 11 + SIGNS[i].length());
                taken("law ages (1" + SIGNS[i] + "2)" + SIGNS[j] + "3;", 1);
                taken("law ages 1" + SIGNS[i] + "2 and 1" + SIGNS[j] + "3;", 1);
            }
        }
    }

    /** "3 told already: a name of its kind (at W), thunder, seed (at the word), a law of its RULE (at RULE)." */
    private static void toldAlready() {
        Due.fault("man m 0;man n 0;man o 0;man p 0;man m 0;", 3, 36);
        taken("man m 0;man mm 0;man n 0;", 3);
        Due.fault("man abcdef 0;man abcdee 0;man abcdef 0;", 3, 30);
        Due.fault(TWO + "bottle a m n 0 1 1;bottle b m n 0 1 1;bottle a n m 1 2 2;", 3, 61);
        taken(TWO + "bottle m m n 0 1 1;bottle n m n 0 1 1;", 4);
        taken(TWO + "bottle o m n 0 1 1;man o 0;", 4);
        Due.fault("thunder 0;thunder 0;", 3, 10);
        Due.fault("thunder 0;thunder", 3, 10);
        Due.fault("seed 0;seed 0;", 3, 7);
        Due.fault("seed 0;seed 100000;", 3, 7);
        for (String rule : new String[] {"ages", "creep", "burst"}) {
            taken("law " + rule + " 1;", 1);
            Due.fault("law " + rule + " 1; law " + rule + " 1;", 3, 12 + rule.length());
            Due.fault("law " + rule + " 1; law " + rule, 3, 12 + rule.length());
        }
        taken("law ages 1;law creep 1;law burst 1;thunder 1;seed 1;", 5);
        TemperCellar x = new TemperCellar();
        Due.due("a text", Due.tell(x, "man m 0;thunder 1;seed 1;law ages 1;"), 4);
        Due.due("the same text again", Due.tell(x, "man m 0;thunder 1;seed 1;law ages 1;"), 4);
        Due.due("one that fails", Due.tell(x, "man q 0;thunder 1;seed 1;law creep 1"), -1);
        Due.due("told of it is nothing", Due.tell(x, "man q 0;thunder 1;seed 1;law creep 1;"), 4);
    }

    /** "4 a PERSON that isn't told ahead (at W)." */
    private static void personToldAhead() {
        Due.fault("need m 0 0 0;man m 0;", 4, 5);
        Due.fault("man m 0;bottle b n m 0 1 1;man n 0;", 4, 17);
        Due.fault("man m 0;bottle b m n 0 1 1;man n 0;", 4, 19);
        Due.fault("bottle b b b 0 1 1;", 4, 9);
        Due.fault("man mm 0;need m 0 0 0;", 4, 14);
        Due.fault("man m 0;need mm 0 0 0;", 4, 13);
        TemperCellar x = Due.told(TWO);
        Due.due("people of the text ahead are none of this", Due.tell(x, "need m 0 0 0;"), -1);
        Due.due("fault", x.fault(0), 4);
    }

    /** "5 a BOTTLE at whom it is (at the second PERSON)." */
    private static void atWhomItIs() {
        Due.fault("man m 0;bottle b m m 0 1 1;", 5, 19);
        Due.fault(TWO + "bottle b n n 9 0 0;", 5, 27);
        taken(TWO + "bottle b n m 0 1 1;bottle c m n 0 1 1;", 4);
        Due.fault("man a 0;man b 0;man c 0;man d 0;man e 0;bottle x e e 0 1 1;", 5, 51);
    }

    /** "of one place the least" */
    private static void leastOfOnePlace() {
        Due.fault("law ages 1 10000;", 1, 11);
        Due.fault("man 10 0;", 1, 4);
        Due.fault("law ages ((((((((1(;", 1, 18);
        String full = "law ages not 1" + "+1".repeat(31);
        Due.fault(full + " 1;", 1, full.length() + 1);
        Due.fault(full + " not;", 1, full.length() + 1);
        Due.fault(full + " force;", 1, full.length() + 1);
        String toCome = "law ages " + "1+".repeat(32);
        Due.fault(toCome + "*;", 1, toCome.length());
        Due.fault(toCome + "not 1;", 1, toCome.length());
        Due.fault(toCome + "and 1;", 1, toCome.length());
        String five = "man a 0;man b 0;man c 0;man d 0;man e 0";
        Due.fault(five + " man f 0;", 1, five.length() + 1);
        Due.fault("thunder 1 thunder 1;", 1, 10);
        Due.fault("seed 1 seed 1;", 1, 7);
    }

    /** "the first along the text" */
    private static void firstAlongTheText() {
        Due.fault("man m 10;$", 2, 6);
        Due.fault("man m 10$", 2, 6);
        Due.fault("man m 0;man m 10;$", 3, 12);
        Due.fault("man m 0;bottle b n n 9 0 0;", 4, 17);
        Due.fault("man m 0;bottle b m m 9 0 0;", 5, 19);
        Due.fault(TWO + "bottle b m n 6 0 0;", 2, 29);
        Due.fault(TWO + "bottle b m n 0 0 0;", 2, 31);
        Due.fault(TWO + "bottle b m n 0 1 0;", 2, 33);
        Due.fault(TWO + "need m 0 200 0;", 2, 25);
        Due.fault("law ages 10000 10000;", 2, 9);
        Due.fault("law ages (((((((((10000", 2, 17);
    }

    /** "the length, if more must come" */
    private static void lengthIfMoreMustCome() {
        String[] starts = {"man", "man m", "man m 0", TWO + "bottle", TWO + "bottle b", TWO + "bottle b m",
            TWO + "bottle b m n", TWO + "bottle b m n 0", TWO + "bottle b m n 0 1", TWO + "bottle b m n 0 1 1",
            TWO + "need", TWO + "need m", TWO + "need m 0", TWO + "need m 0 0", TWO + "need m 0 0 0", "thunder",
            "thunder 0", "seed", "seed 0", "law", "law ages", "law ages 1", "law ages 1+", "law ages not",
            "law ages (", "law ages (1", "law ages (1)", "law ages 1<", "law ages 1 and", "law ages 1 or", "law ages 1*"};
        for (String start : starts) {
            Due.fault(start, 1, start.length());
            Due.fault(start + " ", 1, start.length() + 1);
            Due.fault(start + "\n \n", 1, start.length() + 3);
        }
        String seven = "man m 0;";
        TemperCellar x = new TemperCellar();
        Due.feed(x, seven.getBytes(StandardCharsets.ISO_8859_1));
        Due.due("seven of eight bytes", x.text(7), -1);
        Due.due("the length", x.fault(1), 7);
        Due.feed(x, seven.getBytes(StandardCharsets.ISO_8859_1));
        Due.due("all eight", x.text(8), 1);
    }

    /** "thunder: of a hundred 0 .. 100 (0). seed: 0 .. 99999 (0)." */
    private static void withoutThunderAndSeed() {
        TemperCellar x = Due.told("man m 0;");
        x.go(99);
        Due.due("without thunder", x.count(10), 0);
        TemperCellar without = Due.told("thunder 50;");
        TemperCellar with = Due.told("thunder 50;seed 0;");
        TemperCellar other = Due.told("thunder 50;seed 99999;");
        int alike = 0;
        for (int year = 0; year < 40; year++) {
            without.go(1);
            with.go(1);
            other.go(1);
            Due.due("seed is 0 without", without.count(10), with.count(10));
            alike += without.count(10) == other.count(10) ? 1 : 0;
        }
        Due.due("which another seed isn't", alike < 40, true);
        x = Due.told("thunder 100;seed 99999;");
        Due.due("told anew, they are 0 again", Due.tell(x, "man m 0;"), 1);
        x.go(20);
        Due.due("no thunder", x.count(10), 0);
        Due.due("told anew", Due.tell(x, "thunder 50;"), 1);
        x.go(40);
        Due.due("by seed 0", x.count(10), with.count(10));
    }

    /** "Of the latest text() that was not -2"; "NONE for another what." */
    private static void faultOfTheLatest() {
        TemperCellar x = new TemperCellar();
        Due.due("text(1)", x.text(1), -2);
        Due.due("no fault", x.fault(0), 0);
        Due.due("no place", x.fault(1), -1);
        Due.due("a fault at 0", Due.tell(x, "$"), -1);
        Due.due("a fault", x.fault(0), 1);
        Due.due("place 0", x.fault(1), 0);
        Due.due("another", Due.tell(x, "man m 10;"), -1);
        Due.due("that one's", x.fault(0) * 10 + x.fault(1), 26);
        Due.due("text(1)", x.text(1), -2);
        Due.due("text(-1)", x.text(-1), -2);
        Due.due("still", x.fault(0) * 10 + x.fault(1), 26);
        for (int what : new int[] {2, -1, Integer.MAX_VALUE, Integer.MIN_VALUE}) {
            Due.due("fault(" + what + ")", x.fault(what), -1);
        }
        x.keep();
        x.back();
        Due.due("an image doesn't touch it", x.fault(0) * 10 + x.fault(1), 26);
        Due.due("one without", x.text(0), 0);
        Due.due("no fault", x.fault(0), 0);
        Due.due("no place", x.fault(1), -1);
        String last = "man m 0;" + " ".repeat(691) + "$";
        Due.fault(last, 1, 699);
        Due.fault("man m 0" + " ".repeat(693), 1, 700);
    }

    /** "by its letters, 5 bits each (a is 1; the first one highest of six, 0 behind the last one); NONE: there is none such." */
    private static void namedByLetters() {
        TemperCellar x = Due.told("man a 0;man abcdef 0;man ab 0;man zzzzzz 0;bottle z a ab 0 1 1;bottle abcdeg a ab 0 1 1;");
        Due.due("a", x.named(0, 1 << 25), 0);
        Due.due("abcdef", x.named(0, 1 << 25 | 2 << 20 | 3 << 15 | 4 << 10 | 5 << 5 | 6), 1);
        Due.due("ab", x.named(0, 1 << 25 | 2 << 20), 2);
        Due.due("zzzzzz", x.named(0, 26 << 25 | 26 << 20 | 26 << 15 | 26 << 10 | 26 << 5 | 26), 3);
        Due.due("z", x.named(1, 26 << 25), 0);
        Due.due("abcdeg", x.named(1, Due.letters("abcdef") + 1), 1);
        int[] none = {0, 1, -1, 2 << 25, Due.letters("abcde"), Due.letters("abcdef") - 1, 1 << 25 | 1 << 30,
            1 << 25 | 1 << 31, 1 << 25 | 27 << 20, 1 << 20, Integer.MIN_VALUE, Integer.MAX_VALUE};
        for (int letters : none) {
            Due.due("named(0, " + letters + ")", x.named(0, letters), -1);
            Due.due("named(1, " + letters + ")", x.named(1, letters), -1);
        }
        Due.due("a bottle's name of a person", x.named(0, 26 << 25), -1);
        Due.due("a person's name of a bottle", x.named(1, 1 << 25), -1);
        for (int what : new int[] {2, -1, Integer.MAX_VALUE, Integer.MIN_VALUE}) {
            Due.due("named(" + what + ")", x.named(what, 1 << 25), -1);
        }
        Due.due("a text with fewer people", Due.tell(x, "man b 0;"), 1);
        Due.due("a is gone", x.named(0, 1 << 25), -1);
        Due.due("ab is gone", x.named(0, Due.letters("ab")), -1);
        Due.due("so are bottles", x.named(1, 26 << 25), -1);
        Due.due("a text with a fault", Due.tell(x, "man c 0;man"), -1);
        Due.due("b stays", x.named(0, 2 << 25), 0);
        Due.due("c isn't told", x.named(0, 3 << 25), -1);
    }

    private static TemperCellar used() {
        TemperCellar x = Due.told(FEUD);
        x.rack(2, 0);
        x.keep();
        x.go(2);
        x.see(1, 0, true);
        x.see(2, 0, true);
        x.known(1);
        x.rack(3, 0);
        Due.due("somebody HATES", x.count(11), 2);
        Due.due("one is LYING", x.count(5), 1);
        return x;
    }

    private static TemperCellar usedAndTold(String text) {
        TemperCellar x = used();
        Due.tell(x, text);
        return x;
    }

    /** "YEAR 0, all LYING, nobody HATED, nothing SEEN, all KNOWN, no IMAGE, nothing to undo then"; "A TEXT without LINES" */
    private static void textAnew() {
        String[] texts = {"", FEUD, "man z 1;", TWO + "bottle q n m 5 9 9;thunder 50;need m 0 0 0;law ages load;"};
        for (String text : texts) {
            Twins.alike("told anew: " + text, () -> usedAndTold(text), () -> Due.told(text));
        }
        Twins.alike("no LINES", () -> usedAndTold(""), TemperCellar::new);
        TemperCellar x = usedAndTold(FEUD);
        for (int man = 0; man < 3; man++) {
            Due.due("whom " + man + " HATES", x.man(man, 3), 0);
        }
        Due.due("load", x.law(0, 1), 3);
    }

    /** What an earlier TEXT told is gone, however many there were. */
    private static void textAgainAndAgain() {
        String most = people(5) + bottles(10) + needs(8) + "thunder 100;seed 9;law ages not 1" + "+1".repeat(20)
                + ";law burst force+" + "1+".repeat(9) + "1;";
        TemperCellar x = new TemperCellar();
        for (int time = 0; time < 4; time++) {
            Due.due("lines", Due.tell(x, most), 27);
            Due.due("KNOTS", x.count(3), 42 + 21);
            Due.due("people, bottles, needs", x.count(0) * 1000 + x.count(1) * 10 + x.count(2), 5108);
            Due.due("ages", x.law(0, 9), 0);
            Due.due("burst", x.law(2, 9), 20);
            x.go(1);
            Due.due("THUNDERS", x.count(10), 1);
            Due.due("one with a fault", Due.tell(x, most + "man"), -1);
        }
        for (int time = 0; time < 3; time++) {
            Due.due("a plain one", Due.tell(x, TWO + "bottle a m n 0 10 9;"), 3);
            Due.due("KNOTS", x.count(3), 0);
            Due.due("people, bottles, needs", x.count(0) * 1000 + x.count(1) * 10 + x.count(2), 2010);
            Due.due("no law", x.law(0, 0), Long.MIN_VALUE);
            Due.due("no law", x.law(2, 0), Long.MIN_VALUE);
            x.go(9);
            Due.due("THUNDERS", x.count(10), 0);
            Due.due("STRENGTH", x.bottle(0, 3), 19);
        }
    }
}
