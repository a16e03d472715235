/** Promises 19 to 27: serve, served, pour, ripe, dowry, ring, rests, rest, lasts. */
public final class PuzzleTest {
    private static final String THREE = "man m 3;man n 7;man o 0;";

    public static void main(String[] args) {
        serve();
        serveMost();
        pour();
        ripe();
        dowry();
        ring();
        rests();
        lasts();
        lastsWrong();
        Due.end();
    }

    private static void serve() {
        TemperCellar x = Due.told(THREE + "bottle a m n 0 10 9;bottle b n o 0 20 9;bottle c o n 0 30 9;"
                + "need m 0 10 30;need n 1 0 10;need o 1 50 60;need o 5 10 20;");
        Due.due("served", x.served(), 3);
        Due.due("the first need takes c, for the others' sake", x.serve(0), 2);
        Due.due("the second a", x.serve(1), 0);
        Due.due("the third none", x.serve(2), -2);
        Due.due("the fourth b", x.serve(3), 1);
        Due.due("no such need", x.serve(4), -1);
        Due.due("need -1", x.serve(-1), -1);
        x.open(2);
        Due.due("served", x.served(), 2);
        Due.due("the first need takes a", x.serve(0), 0);
        Due.due("the second none", x.serve(1), -2);
        Due.due("the fourth b", x.serve(3), 1);
        x.undo();
        x.go(1);
        Due.due("it has come", x.serve(0), -1);
        Due.due("by the strengths now", x.serve(1), -2);
        Due.due("c is 31, b is 21, a is opened", x.served(), 0);
        Due.due("the fourth", x.serve(3), -2);
        x = new TemperCellar();
        Due.due("no needs", x.serve(0), -1);
    }

    private static void serveMost() {
        StringBuilder text = new StringBuilder(THREE);
        for (int i = 0; i < 8; i++) {
            text.append("bottle ").append((char) ('a' + i)).append(" m n 0 ").append(10 + i).append(" 9;");
        }
        for (int i = 0; i < 8; i++) {
            text.append("need o 9 10 ").append(17 - i).append(';');
        }
        TemperCellar x = Due.told(text.toString());
        Due.due("all are served", x.served(), 8);
        for (int i = 0; i < 8; i++) {
            Due.due("need " + i, x.serve(i), 7 - i);
        }
        x.open(7);
        Due.due("all but one", x.served(), 7);
        for (int i = 0; i < 7; i++) {
            Due.due("need " + i, x.serve(i), i == 0 ? 0 : i == 6 ? 1 : 7 - i);
        }
        Due.due("none last", x.serve(7), -2);
    }

    private static void pour() {
        TemperCellar x = Due.told(THREE + "bottle a m n 0 10 9;bottle b n o 0 21 9;bottle c o n 0 30 9;bottle d o n 0 99 9;");
        Due.due("15 is cut from 15.5", x.pour(15, 15), 1);
        Due.due("16 is none", x.pour(16, 16), -2);
        Due.due("a and c", x.pour(16, 20), 2);
        Due.due("b and c", x.pour(25, 25), 12);
        Due.due("a and d", x.pour(31, 199), 3);
        Due.due("c and d", x.pour(64, 64), 23);
        Due.due("all", x.pour(0, 199), 1);
        Due.due("none", x.pour(65, 199), -2);
        Due.due("from -1", x.pour(-1, 10), -1);
        Due.due("to 200", x.pour(0, 200), -1);
        Due.due("from 200", x.pour(200, 200), -1);
        Due.due("the second less", x.pour(10, 9), -1);
        x.open(0);
        Due.due("not lying", x.pour(0, 199), 12);
        x.open(1);
        x.open(2);
        Due.due("one alone", x.pour(0, 199), -2);
    }

    private static void ripe() {
        TemperCellar x = Due.told(THREE + "bottle a m n 0 10 9;bottle b n o 1 99 3;bottle c o n 2 30 9;need m 4 35 35;"
                + "thunder 50;law creep bin=1;");
        Due.due("it is", x.ripe(0, 10), 0);
        Due.due("it is", x.ripe(0, 0), 0);
        Due.due("in a year", x.ripe(0, 11), 1);
        Due.due("in 99 years", x.ripe(0, 109), 99);
        Due.due("not by then", x.ripe(0, 110), -2);
        Due.due("ahead of going off", x.ripe(1, 101), 2);
        Due.due("it is off then", x.ripe(1, 102), -2);
        Due.due("ahead of being opened", x.ripe(2, 34), 4);
        Due.due("it is opened then", x.ripe(2, 35), -2);
        Due.due("strength 199", x.ripe(0, 199), -2);
        Due.due("strength 200", x.ripe(0, 200), -1);
        Due.due("strength -1", x.ripe(0, -1), -1);
        Due.due("no such bottle", x.ripe(3, 10), -1);
        Due.due("bottle -1", x.ripe(-1, 10), -1);
        x.open(0);
        Due.due("it isn't lying", x.ripe(0, 0), -2);
    }

    private static void dowry() {
        TemperCellar x = Due.told(THREE + "bottle a n m 0 50 9;bottle b m n 0 8 9;bottle c m n 0 7 9;bottle d m n 0 6 9;"
                + "bottle e m n 0 5 9;bottle f m n 0 4 9;bottle g o n 0 3 9;");
        Due.due("8+7 and 6+5+4", x.dowry(0, 0), 6);
        Due.due("alike", x.dowry(0, 1), 0);
        Due.due("one alone: the empty heap", x.dowry(1, 0), 0);
        Due.due("by how much", x.dowry(1, 1), 50);
        x.open(1);
        Due.due("7+4 and 6+5, the least bits", x.dowry(0, 0), 8 + 16);
        Due.due("alike", x.dowry(0, 1), 0);
        x.open(5);
        Due.due("6+5 or 7", x.dowry(0, 0), 4);
        Due.due("by how much", x.dowry(0, 1), 4);
        x.open(6);
        Due.due("none at all", x.dowry(2, 0), 0);
        Due.due("none at all", x.dowry(2, 1), 0);
        Due.due("no such person", x.dowry(3, 0), -1);
        Due.due("person -1", x.dowry(-1, 0), -1);
        Due.due("what 2", x.dowry(0, 2), -1);
        Due.due("what -1", x.dowry(0, -1), -1);
        StringBuilder ten = new StringBuilder(THREE);
        for (int i = 0; i < 10; i++) {
            ten.append("bottle ").append((char) ('a' + i)).append(" m n 0 ").append(i == 9 ? 99 : 11).append(" 9;");
        }
        x = Due.told(ten.toString());
        Due.due("nine against the tenth", x.dowry(0, 0), 511);
        Due.due("alike", x.dowry(0, 1), 0);
    }

    private static void ring() {
        String five = "man m 0;man n 0;man o 0;man p 0;man q 0;";
        TemperCellar x = Due.told(five + "bottle a m n 0 10 9;bottle b n o 0 20 9;bottle c o m 0 30 9;bottle d p m 0 9 9;");
        Due.due("m, n, o", x.ring(), 7);
        x.open(2);
        Due.due("broken", x.ring(), 0);
        x = Due.told(five + "bottle a m n 0 10 9;bottle b m o 0 10 9;bottle c n m 0 9 9;bottle d o m 0 9 9;"
                + "bottle e p q 0 9 9;bottle f q p 0 9 9;");
        Due.due("the first of several strongest, and two rings", x.ring(), 1 + 2 + 8 + 16);
        x.open(0);
        Due.due("then the other", x.ring(), 1 + 4 + 8 + 16);
        x = Due.told(five + "bottle a m n 0 10 9;bottle b n o 0 10 9;bottle c o p 0 9 9;bottle d p q 0 9 9;"
                + "bottle e q m 0 9 9;");
        Due.due("all five", x.ring(), 31);
        Due.due("an empty cellar", new TemperCellar().ring(), 0);
    }

    private static void rests() {
        TemperCellar x = Due.told(THREE + "man p 1;bottle a m n 0 10 9;bottle b n o 0 20 9;bottle c n o 0 90 9;");
        Due.due("both have", x.rests(0, 1), 1);
        Due.due("both open", x.rest(0, 1, 0), 11);
        Due.due("not so many", x.rest(0, 1, 1), -2);
        Due.due("the second has none", x.rests(0, 2), 2);
        Due.due("first", x.rest(0, 2, 0), 10);
        Due.due("second", x.rest(0, 2, 1), 11);
        Due.due("third", x.rest(0, 2, 2), -2);
        Due.due("the first has none", x.rests(2, 0), 2);
        Due.due("first", x.rest(2, 0, 0), 1);
        Due.due("second", x.rest(2, 0, 1), 11);
        Due.due("none has", x.rests(2, 3), 4);
        int[] all = {0, 1, 10, 11, -2};
        for (int k = 0; k < all.length; k++) {
            Due.due("rest(2, 3, " + k + ")", x.rest(2, 3, k), all[k]);
        }
        Due.due("alike", x.rests(1, 1), -1);
        Due.due("alike", x.rest(1, 1, 0), -1);
        Due.due("no such person", x.rests(0, 4) + x.rests(4, 0) + x.rests(-1, 0) + x.rests(0, -1), -4);
        Due.due("no such person", x.rest(0, 4, 0) + x.rest(4, 0, 0) + x.rest(-1, 0, 0) + x.rest(0, -1, 0), -4);
        Due.due("k -1", x.rest(0, 1, -1), -1);
        Due.due("k MAX", x.rest(0, 1, Integer.MAX_VALUE), -2);
    }

    private static void fraction(String text, int n, long above, long below) {
        TemperCellar x = Due.told(THREE + text);
        Due.due("lasts(0, " + n + ", 0) of " + text, x.lasts(0, n, 0), above);
        Due.due("lasts(0, " + n + ", 1) of " + text, x.lasts(0, n, 1), below);
    }

    private static void lasts() {
        fraction("bottle a m n 0 10 1;thunder 60;", 0, 1, 1);
        fraction("bottle a m n 0 10 1;thunder 60;", 1, 2, 5);
        fraction("bottle a m n 0 10 1;thunder 60;", 2, 4, 25);
        fraction("bottle a m n 0 10 2;thunder 60;", 2, 16, 25);
        fraction("bottle a m n 0 10 3;thunder 50;", 5, 1, 2);
        fraction("bottle a m n 0 10 2;thunder 50;", 5, 3, 16);
        fraction("bottle a m n 0 10 5;thunder 1;", 5, 9999999999L, 10000000000L);
        fraction("bottle a m n 0 10 1;thunder 99;", 5, 1, 10000000000L);
        fraction("bottle a m n 0 10 6;thunder 99;", 5, 1, 1);
        fraction("bottle a m n 0 10 1;thunder 100;", 1, 0, 1);
        fraction("bottle a m n 0 10 5;thunder 100;", 4, 1, 1);
        fraction("bottle a m n 0 10 5;thunder 100;", 5, 0, 1);
        fraction("bottle a m n 0 10 1;", 5, 1, 1);
        fraction("bottle a m n 0 10 2;thunder 60;law creep 9;", 2, 16, 25);
    }

    private static void lastsWrong() {
        TemperCellar x = Due.told(THREE + "bottle a m n 0 10 3;thunder 100;");
        Due.due("n 6", x.lasts(0, 6, 0), -1);
        Due.due("n -1", x.lasts(0, -1, 0), -1);
        Due.due("what 2", x.lasts(0, 1, 2), -1);
        Due.due("what -1", x.lasts(0, 1, -1), -1);
        Due.due("no such bottle", x.lasts(1, 1, 0), -1);
        Due.due("bottle -1", x.lasts(-1, 1, 0), -1);
        Due.due("three corks", x.lasts(0, 2, 0), 1);
        x.go(1);
        Due.due("two corks", x.lasts(0, 2, 0), 0);
        x.open(0);
        Due.due("not lying", x.lasts(0, 1, 0), -1);
    }
}
