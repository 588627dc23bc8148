import java.lang.reflect.Method;

/** For each promise of the document what it says, its edges, and what it refuses; by hand. */
public final class PromisesTest {
    private static final int BAD = -1, STATE = -2, FULL = -3, NONE = -4, WORST = -1000000;
    private static final int LOW = Integer.MIN_VALUE, HIGH = Integer.MAX_VALUE;

    /** 0 -9- 1 -3- 2, 0 -20- 2, 3 apart; 0 1 is shut in minutes 20 to 44. */
    private static final String FOUR = "place 100;place 90;place 110;place 95;way 0 1 9;way 1 2 3;"
            + "way 2 0 20;shut 1 0 20 40;shut 0 1 41 44;most 300;";
    /** 0 -5- 1 -7- 2. */
    private static final String LINE = "place 100;place 90;place 110;way 0 1 5;way 1 2 7;";
    /** 0 in the middle: 1 is 10, 2 is 5, 3 is 20 minutes off. */
    private static final String STAR =
            "place 9;place 9;place 9;place 9;way 0 1 10;way 0 2 5;way 0 3 20;";

    private static int promise;
    private static int wrong;
    private static int asked;

    private static void due(long got, long want) {
        asked++;
        if (got != want) {
            wrong++;
            StackTraceElement at = new Throwable().getStackTrace()[1];
            System.out.println("promise " + promise + ", line " + at.getLineNumber() + ": answered "
                    + got + ", due is " + want);
        }
    }

    private static void feed(LatePrices x, String text) {
        int had = x.count(4);
        for (int i = 0; i < text.length(); i += 8) {
            long v = 0;
            for (int j = 0; j < 8; j++) {
                v = v << 8 | (i + j < text.length() ? text.charAt(i + j) : ' ');
            }
            x.feed(v);
        }
        x.end(had + text.length());
    }

    private static int tell(LatePrices x, String text) {
        feed(x, text);
        return x.system();
    }

    private static LatePrices made(String text) {
        LatePrices x = new LatePrices();
        if (tell(x, text) < 0) {
            throw new IllegalStateException(text);
        }
        return x;
    }

    /** A text with a fault of a kind at a place. */
    private static void broken(String text, int fault, int place) {
        LatePrices x = made("place 7;");
        due(tell(x, text), -10 - place);
        due(x.fault(), fault);
        due(x.told(0), 1);
        due(x.price(0, 0), 7);
        due(x.count(4), 0);
    }

    // 1 to 7: the text

    static void p1() {
        LatePrices x = new LatePrices();
        int[] told = {0, 0, 0, 1, 2, 1, 0, 999};
        for (int i = 0; i < told.length; i++) {
            due(x.told(i), told[i]);
        }
        int[] count = {0, 0, 0, 0, 0, NONE};
        for (int i = 0; i < count.length; i++) {
            due(x.count(i), count[i]);
        }
        due(x.fault(), 0);
        due(x.torn(), 0);
        for (int k = 0; k < 4; k++) {
            due(x.lay(k, 0, 1), -11);
        }
        due(x.back(0), STATE);
        due(x.back(1), STATE);
        due(x.odds(1, 0, 1), 2);
        due(x.price(0, 0), BAD);
        due(x.empty(0), 0);
        due(x.over(0), 0);
        due(x.book(0, 0), NONE);
    }

    static void p2() {
        LatePrices x = new LatePrices();
        due(x.feed(0x706c616365203935L), 8);
        due(x.feed(0x3b20202020202020L), 16);
        due(x.system(), 1);
        due(x.price(0, 0), 95);
        for (int i = 1; i <= 40; i++) {
            due(x.feed(0x2020202020202020L), 8 * i);
        }
        due(x.feed(0), FULL);
        due(x.count(4), 320);
        due(x.end(313), 320);
        due(x.feed(-1), FULL);
        due(x.end(312), 313);
        due(x.feed(0x2020202020202020L), 320);
        due(x.system(), 0);
        due(x.feed(-1), 8);
        due(x.system(), -10);
        due(x.fault(), 1);
    }

    static void p3() {
        LatePrices x = new LatePrices();
        due(x.end(0), 0);
        due(x.end(1), BAD);
        x.feed(0x3b3b3b3b3b3b3b3bL);
        due(x.end(-1), BAD);
        due(x.end(9), BAD);
        due(x.end(LOW), BAD);
        due(x.end(HIGH), BAD);
        due(x.end(8), 8);
        due(x.end(3), 8);
        due(x.end(0), 3);
        due(x.count(4), 0);
        due(x.system(), 0);
    }

    static void p4() {
        LatePrices x = new LatePrices();
        due(tell(x, FOUR), 10);
        due(tell(x, ""), 0);
        due(x.told(0), 0);
        due(tell(x, "   "), 0);
        due(tell(x, "place 1 ;place999;  place 007  ;way0 1 99;way1 2 1;shut 2 1 0 0;"
                + "shut2 1 999 999;moves0 0 4;first number;most1;"), 10);
        due(x.told(0), 3);
        due(x.price(2, 0), 7);
        due(x.told(6), 2);
        due(x.told(7), 1);
        due(tell(x, "first near;most 5;moves 4 4 4;"), 3);
        due(x.told(0), 0);
        due(x.told(6), 1);
        due(tell(x, "place 5;"), 1);
        due(x.told(6), 0);
        due(x.told(7), 999);
        due(x.told(4), 2);
        // What a taken system ends, and what it leaves.
        x.sheet(0, 0, 5);
        x.step(0, 1, 2);
        x.call(0, 0, 0, 1, 1, 0, 0);
        x.keep(0);
        due(tell(x, "place 5; place"), -24);
        due(x.count(0), 1);
        due(x.count(1), 1);
        due(x.count(3), 1);
        due(tell(x, "place 6;"), 1);
        due(x.count(0), 0);
        due(x.count(1), 0);
        due(x.count(3), 0);
        due(x.count(5), 5);
        due(x.price(0, 1), 6);
        StringBuilder most = new StringBuilder("place 1;place 1;place 1;place 1;place 1;");
        for (int a = 0; a < 5; a++) {
            for (int b = 0; b < a; b++) {
                most.append("way ").append(a).append(b < 1 ? " 0 1;" : " " + b + " 1;");
            }
        }
        due(tell(x, most.toString()), 15);
        due(x.told(1), 10);
    }

    static void p5() {
        // 1: no token, a number that is too long
        broken("place 5,", 1, 7);
        broken("PLACE 5;", 1, 0);
        broken("place 5;\n", 1, 8);
        broken("place 1000;", 1, 6);
        broken("place 0001;", 1, 6);
        broken("1000", 1, 0);
        broken("place" + (char) 233 + "5;", 1, 5);
        broken("place 5" + (char) 0 + ";", 1, 7);
        // 2: can not stand there
        broken("5;", 2, 0);
        broken(";", 2, 0);
        broken("place 5;;", 2, 8);
        broken("places 5;", 2, 0);
        broken("plac 5;", 2, 0);
        broken("a 5;", 2, 0);
        broken("z 5;", 2, 0);
        broken("placeplace 5;", 2, 0);
        broken("place;", 2, 5);
        broken("place  ", 2, 7);
        broken("place 5", 2, 7);
        broken("place 5   ", 2, 10);
        broken("place 5 6;", 2, 8);
        broken("first 1;", 2, 6);
        broken("first far;", 2, 6);
        broken("first;", 2, 5);
        broken("first sentt;", 2, 6);
        broken("firstsent;", 2, 0);
        broken("moves 1 1;", 2, 9);
        broken("most most;", 2, 5);
        // 3: out of its bounds
        broken("place 0;", 3, 6);
        broken("way 0 0 1;", 3, 4);
        broken("place 1;way 0 1 5;", 3, 14);
        broken("place 1;way 0 0 5;", 3, 14);
        broken("place 1;place 1;way 0 1 0;", 3, 24);
        broken("place 1;place 1;way 0 1 100;", 3, 24);
        broken("place 1;place 1;shut 0 1 2 3;", 3, 23);
        broken("place 1;place 1;way 0 1 1;shut 0 0 2 3;", 3, 33);
        broken("place 1;place 1;way 0 1 1;shut 2 0 2 3;", 3, 31);
        broken("place 1;place 1;way 0 1 1;shut 1 0 3 2;", 3, 37);
        broken("moves 5 0 1;", 3, 6);
        broken("moves 0 5 1;", 3, 8);
        broken("moves 0 0 5;", 3, 10);
        broken("moves 0 0 0;", 3, 10);
        broken("most 0;", 3, 5);
        // 4: for the second time
        broken("moves 1 1 1;moves 1 1 1;", 4, 12);
        broken("first near;first", 4, 11);
        broken("most 5;most,", 4, 7);
        broken("place 1;place 1;way 0 1 5;way 1 0 5;", 4, 32);
        broken("place 1;place 1;way 0 1 1;way 1 0 5;", 4, 32);
        broken("place 1;place 1;way 0 1 5;way 0 1 ,", 4, 32);
        // 5: too many
        broken("place 1;place 1;place 1;place 1;place 1;place ,", 5, 40);
        StringBuilder shuts = new StringBuilder("place 1;place 1;way 0 1 1;");
        for (int i = 0; i < 12; i++) {
            shuts.append("shut 0 1 5 5;");
        }
        LatePrices x = made(shuts.toString());
        due(x.told(2), 12);
        broken(shuts + "shut ,", 5, shuts.length());
        // a fault is told till the next system()
        due(tell(x, "x"), -10);
        due(x.fault(), 2);
        due(x.step(0, 0, 0), BAD);
        due(x.fault(), 2);
        due(tell(x, ""), 0);
        due(x.fault(), 0);
    }

    static void p6() {
        LatePrices x = made(FOUR + "moves 3 0 4;first number;");
        int[] told = {4, 3, 2, 3, 0, 4, 2, 300};
        for (int i = 0; i < told.length; i++) {
            due(x.told(i), told[i]);
        }
        due(x.told(-1), BAD);
        due(x.told(8), BAD);
        due(x.told(LOW), BAD);
        due(x.told(HIGH), BAD);
    }

    static void p7() {
        LatePrices x = made(FOUR);
        due(x.way(0, 1), 9);
        due(x.way(1, 0), 9);
        due(x.way(0, 2), 20);
        due(x.way(1, 3), NONE);
        due(x.way(3, 0), NONE);
        due(x.way(2, 2), BAD);
        due(x.way(-1, 0), BAD);
        due(x.way(0, 4), BAD);
        due(x.way(4, 0), BAD);
        due(x.way(0, LOW), BAD);
        due(made("place 1;place 1;way 1 0 1;").way(0, 1), 1);
    }

    // 8 to 12: news, prices

    static void p8() {
        LatePrices x = made(FOUR);
        due(x.comes(0, 1, 5), 14);
        due(x.comes(0, 1, 19), 28);
        // 0 to 1 waits till 45, so it is there at 54; round by 2 it is there at 43
        due(x.comes(0, 1, 20), 43);
        due(x.comes(0, 1, 30), 53);
        due(x.comes(0, 1, 31), 54);
        due(x.comes(0, 1, 44), 54);
        due(x.comes(0, 1, 45), 54);
        due(x.comes(0, 1, 46), 55);
        due(x.comes(3, 3, 999), 999);
        due(x.comes(0, 3, 0), NONE);
        due(x.comes(3, 1, 0), NONE);
        due(x.comes(2, 0, 999), 1011);
        due(x.comes(4, 0, 0), BAD);
        due(x.comes(0, -1, 0), BAD);
        due(x.comes(0, 1, -1), BAD);
        due(x.comes(0, 1, 1000), BAD);
        // shuts that overlap, told in any order, are waited for one after the other
        LatePrices y = made("place 1;place 1;way 0 1 1;shut 0 1 30 40;shut 0 1 20 29;"
                + "shut 0 1 10 25;shut 1 0 999 999;shut 0 1 0 0;");
        due(y.comes(0, 1, 9), 10);
        due(y.comes(0, 1, 10), 42);
        due(y.comes(1, 0, 40), 42);
        due(y.comes(1, 0, 41), 42);
        due(y.comes(1, 0, 42), 43);
        due(y.comes(1, 0, 999), 1001);
        due(y.comes(1, 0, 998), 999);
        due(y.comes(1, 0, 0), 2);
    }

    static void p9() {
        LatePrices x = made(FOUR);
        x.step(0, 19, 55);
        x.step(0, 20, 66);
        due(x.knows(1, 0, 8, 0), NONE);
        due(x.knows(1, 0, 8, 1), NONE);
        due(x.knows(1, 0, 8, 2), NONE);
        due(x.knows(1, 0, 9, 0), 0);
        due(x.knows(1, 0, 9, 1), 9);
        due(x.knows(1, 0, 9, 2), 100);
        due(x.knows(1, 0, 28, 0), 19);
        due(x.knows(1, 0, 29, 0), 19);
        due(x.knows(1, 0, 40, 0), 19);
        due(x.knows(1, 0, 42, 0), 19);
        due(x.knows(1, 0, 42, 1), 23);
        due(x.knows(1, 0, 42, 2), 55);
        due(x.knows(1, 0, 43, 0), 20);
        due(x.knows(1, 0, 43, 2), 66);
        due(x.knows(1, 0, 53, 0), 30);
        due(x.knows(1, 0, 54, 0), 45);
        due(x.knows(3, 0, 999, 0), NONE);
        due(x.knows(3, 3, 999, 0), 999);
        due(x.knows(3, 3, 999, 1), 0);
        due(x.knows(3, 3, 0, 2), 95);
        due(x.knows(4, 0, 9, 0), BAD);
        due(x.knows(0, 4, 9, 0), BAD);
        due(x.knows(-1, 0, 9, 0), BAD);
        due(x.knows(0, 1, -1, 0), BAD);
        due(x.knows(0, 1, 1000, 0), BAD);
        due(x.knows(0, 1, 9, -1), BAD);
        due(x.knows(0, 1, 9, 3), BAD);
        due(made("place 1;place 1;way 1 0 1;").knows(0, 1, 1, 0), 0);
    }

    static void p10() {
        LatePrices x = made(LINE);
        due(x.step(3, 0, 1), BAD);
        due(x.step(-1, 0, 1), BAD);
        due(x.step(0, -1, 1), BAD);
        due(x.step(0, 1000, 1), BAD);
        due(x.step(0, 0, 0), BAD);
        due(x.step(0, 0, 1000), BAD);
        due(x.count(0), 0);
        for (int i = 1; i <= 24; i++) {
            due(x.step(i % 3, i == 24 ? 999 : 0, i == 1 ? 999 : 1), i);
        }
        due(x.step(0, 0, 1), FULL);
        due(x.step(0, 0, 0), BAD);
        due(x.count(0), 24);
        due(x.price(0, 0), 1);
    }

    static void p11() {
        LatePrices x = made(LINE);
        due(x.price(0, 0), 100);
        due(x.price(2, 999), 110);
        x.step(0, 30, 7);
        x.step(0, 10, 8);
        x.step(1, 10, 9);
        due(x.price(0, 9), 100);
        due(x.price(0, 10), 8);
        due(x.price(0, 29), 8);
        due(x.price(0, 30), 7);
        due(x.price(0, 999), 7);
        due(x.price(1, 10), 9);
        x.step(0, 30, 6);
        x.step(0, 0, 5);
        due(x.price(0, 30), 6);
        due(x.price(0, 0), 5);
        due(x.price(0, 10), 8);
        due(x.price(3, 0), BAD);
        due(x.price(-1, 0), BAD);
        due(x.price(0, -1), BAD);
        due(x.price(0, 1000), BAD);
    }

    static void p12() {
        LatePrices x = made(LINE);
        due(x.dearest(0, 0, 0), 2);
        due(x.dearest(0, 0, 1), 1);
        x.step(0, 10, 110);
        x.step(2, 10, 90);
        due(x.dearest(-5, 10, 0), 0);
        due(x.dearest(99, 10, 1), 1);
        due(x.dearest(1, 4, 2), 1);
        due(x.dearest(1, 5, 2), 0);
        due(x.dearest(1, 5, 3), 1);
        due(x.dearest(1, 7, 2), 2);
        // 1 knows of both new prices from 17 on, of that of 0 from 15 on
        due(x.dearest(1, 15, 2), 0);
        due(x.dearest(1, 16, 3), 1);
        due(x.dearest(2, 10, 3), 1);
        due(x.dearest(2, 6, 3), 2);
        due(x.dearest(0, 21, 2), 0);
        x.step(1, 20, 110);
        due(x.dearest(0, 20, 0), 0);
        due(x.dearest(0, 20, 1), 2);
        due(x.dearest(0, 24, 3), 1);
        due(x.dearest(0, 25, 3), 2);
        due(x.dearest(3, 0, 2), BAD);
        due(x.dearest(-1, 0, 3), BAD);
        due(x.dearest(0, -1, 0), BAD);
        due(x.dearest(0, 1000, 0), BAD);
        due(x.dearest(0, 0, -1), BAD);
        due(x.dearest(0, 0, 4), BAD);
        LatePrices y = new LatePrices();
        due(y.dearest(0, 0, 0), NONE);
        due(y.dearest(0, 0, 1), NONE);
        due(y.dearest(0, 0, 2), BAD);
        due(y.dearest(0, 0, 4), BAD);
        due(y.dearest(0, 1000, 0), BAD);
    }

    // 13 to 21: calls, deals

    static void p13() {
        LatePrices x = made(LINE);
        due(x.call(3, 0, 0, 1, 1, 0, 0), BAD);
        due(x.call(-1, 0, 0, 1, 1, 0, 0), BAD);
        due(x.call(0, -1, 0, 1, 1, 0, 0), BAD);
        due(x.call(0, 1000, 0, 1, 1, 0, 0), BAD);
        due(x.call(0, 0, -1, 1, 1, 0, 0), BAD);
        due(x.call(0, 0, 2, 1, 1, 0, 0), BAD);
        due(x.call(0, 0, 0, 0, 1, 0, 0), BAD);
        due(x.call(0, 0, 0, 1000, 1, 0, 0), BAD);
        due(x.call(0, 0, 0, 1, 0, 0, 0), BAD);
        due(x.call(0, 0, 0, 1, 100, 0, 0), BAD);
        due(x.call(0, 0, 0, 1, 1, -1, 0), BAD);
        due(x.call(0, 0, 0, 1, 1, 3, 0), BAD);
        due(x.call(0, 5, 0, 1, 1, 1, 4), BAD);
        due(x.call(0, 5, 0, 1, 1, 1, 1000), BAD);
        due(x.call(0, 5, 0, 1, 1, 2, -1), BAD);
        due(x.call(0, 5, 0, 1, 1, 2, 1000), BAD);
        due(x.count(1), 0);
        due(x.call(0, 5, 0, 1, 1, 0, -77), 0);
        due(x.call(0, 5, 1, 999, 99, 1, 5), 1);
        due(x.call(0, 5, 1, 999, 99, 1, 999), 2);
        due(x.call(0, 5, 1, 999, 99, 2, 0), 3);
        due(x.call(2, 999, 1, 999, 99, 2, 999), 4);
        for (int i = 5; i < 12; i++) {
            due(x.call(0, 0, 0, 1, 1, 0, HIGH), i);
        }
        due(x.call(0, 0, 0, 1, 1, 0, 0), FULL);
        due(x.call(0, 0, 0, 1, 0, 0, 0), BAD);
        due(x.count(1), 12);
    }

    static void p14() {
        LatePrices x = made(LINE);
        x.call(0, 5, 0, 1, 1, 0, 0);
        due(x.takeBack(0, 4), BAD);
        due(x.takeBack(0, 1000), BAD);
        due(x.takeBack(0, -1), BAD);
        due(x.takeBack(0, -3), BAD);
        due(x.takeBack(1, 9), BAD);
        due(x.takeBack(-1, 9), BAD);
        due(x.takeBack(0, 9), NONE);
        due(x.stands(0, 8), 1);
        due(x.stands(0, 9), 0);
        due(x.takeBack(0, 5), 9);
        due(x.stands(0, 5), 0);
        due(x.takeBack(0, NONE), 5);
        due(x.stands(0, 999), 1);
        due(x.takeBack(0, NONE), NONE);
        due(x.takeBack(0, 999), NONE);
        due(x.stands(0, 998), 1);
        due(x.stands(0, 999), 0);
    }

    static void p15() {
        LatePrices x = made(LINE);
        x.call(0, 5, 1, 70, 6, 0, 44);
        x.call(1, 6, 0, 71, 7, 1, 60);
        x.call(2, 7, 1, 72, 8, 2, 3);
        int[][] rows = {{0, 5, 1, 70, 6, 0, 0, 999, 0, NONE}, {1, 6, 0, 71, 7, 1, 60, 60, 0, NONE},
            {2, 7, 1, 72, 8, 2, 3, 999, 0, NONE}};
        for (int c = 0; c < 3; c++) {
            for (int what = 0; what < 10; what++) {
                due(x.of(c, what), rows[c][what]);
            }
        }
        due(x.of(0, 10), BAD);
        due(x.of(0, -1), BAD);
        due(x.of(3, 0), BAD);
        due(x.of(-1, 0), BAD);
        // 2's price is 110: 113 and 107 are not more than 3 from it, 106 is
        x.step(2, 8, 113);
        x.step(2, 20, 107);
        due(x.of(2, 7), 999);
        x.step(2, 30, 106);
        x.step(2, 40, 110);
        due(x.of(2, 7), 29);
        x.step(2, 30, 110);
        due(x.of(2, 7), 999);
        // a step in its own minute is its price, it does not make it fall
        x.step(2, 7, 1);
        due(x.of(2, 7), 7);
        x.takeBack(2, 7);
        due(x.of(2, 7), 6);
        x.takeBack(1, 999);
        due(x.of(1, 7), 60);
        x.takeBack(1, 60);
        due(x.of(1, 7), 59);
        // units struck, and when all were
        x.deal(1, 0, 10, 4);
        due(x.of(0, 8), 4);
        due(x.of(0, 9), NONE);
        x.deal(1, 0, 20, 9);
        due(x.of(0, 8), 6);
        due(x.of(0, 9), 25);
        x.deal(1, 0, 11, 9);
        due(x.of(0, 9), 16);
        LatePrices y = made(LINE);
        y.call(0, 0, 0, 1, 1, 0, 0);
        y.takeBack(0, 0);
        due(y.of(0, 7), -1);
    }

    static void p16() {
        LatePrices x = made(LINE);
        x.call(0, 5, 1, 70, 6, 0, 0);
        x.call(0, 5, 1, 70, 6, 1, 7);
        x.call(0, 5, 1, 70, 6, 2, 0);
        x.step(0, 6, 99);
        x.step(0, 7, 100);
        due(x.stands(0, 4), 0);
        due(x.stands(0, 5), 1);
        due(x.stands(0, 999), 1);
        due(x.stands(1, 7), 1);
        due(x.stands(1, 8), 0);
        due(x.stands(2, 5), 1);
        due(x.stands(2, 6), 0);
        due(x.stands(2, 7), 0);
        x.deal(1, 0, 10, 6);
        due(x.of(0, 8), 6);
        due(x.stands(0, 20), 1);
        due(x.stands(3, 0), BAD);
        due(x.stands(-1, 0), BAD);
        due(x.stands(0, -1), BAD);
        due(x.stands(0, 1000), BAD);
    }

    static void p17() {
        LatePrices x = made(FOUR);
        x.call(0, 20, 1, 70, 6, 0, 0);
        due(x.seen(0, 0, 0), 20);
        due(x.seen(0, 1, 0), 43);
        due(x.seen(0, 2, 0), 40);
        due(x.seen(0, 3, 0), NONE);
        due(x.seen(0, 1, 1), NONE);
        x.takeBack(0, 999);
        due(x.seen(0, 0, 1), 999);
        due(x.seen(0, 1, 1), 1008);
        due(x.seen(0, 3, 1), NONE);
        x.call(2, 0, 1, 70, 6, 0, 0);
        x.takeBack(1, 0);
        due(x.seen(1, 2, 0), 0);
        due(x.seen(1, 1, 0), 3);
        due(x.seen(1, 1, 1), 3);
        due(x.seen(0, 4, 0), BAD);
        due(x.seen(0, -1, 0), BAD);
        due(x.seen(2, 0, 0), BAD);
        due(x.seen(-1, 0, 0), BAD);
        due(x.seen(0, 0, 2), BAD);
        due(x.seen(0, 0, -1), BAD);
    }

    static void p18() {
        LatePrices x = made(FOUR);
        x.call(0, 5, 1, 100, 4, 1, 6);
        due(x.deal(1, 0, 13, 1), STATE);
        due(x.deal(3, 0, 999, 1), STATE);
        due(x.deal(0, 0, 13, 1), BAD);
        due(x.deal(4, 0, 13, 1), BAD);
        due(x.deal(-1, 0, 13, 1), BAD);
        due(x.deal(1, 1, 13, 1), BAD);
        due(x.deal(1, -1, 13, 1), BAD);
        due(x.deal(1, 0, -1, 1), BAD);
        due(x.deal(1, 0, 1000, 1), BAD);
        due(x.deal(1, 0, 13, 0), BAD);
        due(x.deal(1, 0, 13, 100), BAD);
        due(x.count(2), 0);
        // of a call that stands no more a deal is taken all the same
        due(x.deal(1, 0, 14, 99), 0);
        due(x.deal(2, 0, 16, 1), STATE);
        due(x.deal(2, 0, 17, 1), 1);
        for (int i = 2; i < 24; i++) {
            due(x.deal(1, 0, 999, 1), i);
        }
        due(x.deal(1, 0, 999, 1), FULL);
        due(x.deal(1, 0, 13, 1), STATE);
        due(x.deal(1, 0, 13, 0), BAD);
        due(x.count(2), 24);
    }

    static void p19() {
        LatePrices x = made(FOUR);
        x.call(0, 5, 1, 100, 4, 0, 0);
        x.deal(1, 0, 14, 3);
        x.deal(2, 0, 17, 2);
        // 0 left for 2 at 23 waits till 45, or goes straight: 43, and on to 1: 46
        int[][] rows = {{1, 0, 14, 3, 23, 3, 46}, {2, 0, 17, 2, 37, 1, 57}};
        for (int d = 0; d < 2; d++) {
            for (int what = 0; what < 7; what++) {
                due(x.sent(d, what), rows[d][what]);
            }
        }
        due(x.sent(0, 7), BAD);
        due(x.sent(0, -1), BAD);
        due(x.sent(2, 0), BAD);
        due(x.sent(-1, 0), BAD);
        x.deal(1, 0, 999, 1);
        due(x.sent(2, 4), 1008);
        due(x.sent(2, 5), 0);
        due(x.sent(2, 6), 1017);
        first("", new int[] {2, 0, 3, 0});
        first("first sent;", new int[] {2, 0, 3, 0});
        first("first near;", new int[] {0, 2, 2, 1});
        first("first number;", new int[] {2, 2, 1, 0});
        // alike by the rule: as told
        for (String rule : new String[] {"sent", "near", "number"}) {
            LatePrices y = made(STAR + "first " + rule + ";");
            y.call(0, 0, 1, 50, 5, 0, 0);
            y.deal(2, 0, 35, 4);
            y.deal(2, 0, 35, 3);
            due(y.sent(0, 5), 4);
            due(y.sent(1, 5), 1);
        }
    }

    /** Four deals that come in one minute for five units. */
    private static void first(String rule, int[] struck) {
        LatePrices x = made(STAR + rule);
        x.call(0, 0, 1, 50, 5, 1, 100);
        x.deal(3, 0, 20, 2);
        x.deal(2, 0, 35, 2);
        x.deal(1, 0, 30, 3);
        x.deal(2, 0, 35, 1);
        for (int d = 0; d < 4; d++) {
            due(x.sent(d, 4), 40);
            due(x.sent(d, 5), struck[d]);
        }
        // one that comes earlier is ahead by every rule
        x.deal(2, 0, 34, 5);
        due(x.sent(4, 5), 5);
        for (int d = 0; d < 4; d++) {
            due(x.sent(d, 5), 0);
        }
    }

    static void p20() {
        LatePrices x = made(STAR);
        x.call(0, 0, 1, 50, 5, 1, 40);
        x.call(0, 0, 1, 50, 5, 0, 0);
        due(x.empty(0), 0);
        x.deal(2, 0, 35, 5);
        x.deal(2, 0, 35, 1);
        x.deal(2, 0, 36, 1);
        x.deal(1, 1, 29, 1);
        x.deal(1, 1, 30, 1);
        x.deal(2, 1, 25, 1);
        due(x.empty(0), 6);
        due(x.empty(1), 2);
        due(x.empty(2), 0);
        // 1 knows at 30 that it was taken back, 2 at 25
        x.takeBack(1, 20);
        due(x.empty(0), 62);
        due(x.empty(1), 2);
        due(x.empty(2), 48);
        x.takeBack(1, 21);
        due(x.empty(2), 0);
        due(x.empty(0), 62);
        x.takeBack(1, NONE);
        due(x.empty(0), 6);
        x.takeBack(0, 40);
        due(x.empty(0), 7);
        due(x.empty(1), 0);
        due(x.empty(-1), BAD);
        due(x.empty(3), BAD);
    }

    static void p21() {
        LatePrices x = made(STAR + "most 10;");
        for (int c = 0; c < 4; c++) {
            x.call(0, 0, 1, 10, 9, 0, 0);
        }
        x.call(0, 0, 0, 10, 9, 0, 0);
        x.deal(2, 0, 10, 1);
        x.deal(2, 1, 10, 3);
        x.deal(2, 2, 10, 2);
        x.deal(1, 3, 10, 9);
        x.deal(2, 3, 10, 3);
        // 2 owes 90; all but 10 of it is 80: 30 and 30 and 20 are the fewest
        due(x.owes(2, 0, 999, 0), 90);
        due(x.undo(2, 0), 3);
        due(x.undo(2, 1), 22);
        due(x.undo(0, 0), 0);
        due(x.undo(0, 1), 0);
        due(x.undo(1, 0), 1);
        due(x.undo(1, 1), 8);
        due(x.undo(3, 0), 0);
        // what it sells helps: it owes 60, 50 are 30 and 20 at the least
        x.deal(2, 4, 10, 3);
        due(x.undo(2, 0), 2);
        due(x.undo(2, 1), 6);
        // what is no more than most is nothing to undo
        x.deal(2, 4, 10, 5);
        due(x.owes(2, 0, 999, 0), 10);
        due(x.undo(2, 0), 0);
        due(x.undo(2, 1), 0);
        due(x.undo(4, 0), BAD);
        due(x.undo(-1, 0), BAD);
        due(x.undo(0, -1), BAD);
        due(x.undo(0, 2), BAD);
        // of several the least number, not the dearest
        LatePrices y = made(STAR + "most 10;");
        y.call(0, 0, 1, 10, 99, 0, 0);
        y.deal(2, 0, 10, 2);
        y.deal(2, 0, 10, 1);
        y.deal(2, 0, 10, 5);
        due(y.undo(2, 1), 5);
        LatePrices z = made(STAR + "most 50;");
        z.call(0, 0, 1, 10, 99, 0, 0);
        z.deal(2, 0, 10, 3);
        z.deal(2, 0, 10, 5);
        due(z.undo(2, 1), 1);
        debtOf(10, 14, 11, 2, 3);
        debtOf(12, 14, 11, 1, 1);
        debtOf(11, 14, 11, 1, 1);
        debtOf(14, 14, 11, 1, 1);
        debtOf(13, 11, 14, 1, 2);
        debtOf(14, 11, 14, 1, 1);
    }

    // 22 to 26: what it brings

    /** A place that owes two sums. */
    private static void debtOf(int most, int first, int second, int fewest, int bits) {
        LatePrices x = made(STAR + "most " + most + ";");
        x.call(0, 0, 1, 1, 99, 0, 0);
        x.deal(2, 0, 10, first);
        x.deal(2, 0, 10, second);
        due(x.undo(2, 0), fewest);
        due(x.undo(2, 1), bits);
    }

    private static LatePrices bargains() {
        LatePrices x = made(LINE);
        x.call(0, 0, 1, 90, 3, 0, 0);
        x.call(0, 0, 1, 95, 2, 1, 30);
        x.call(2, 0, 0, 100, 4, 1, 40);
        x.call(2, 0, 0, 93, 9, 0, 0);
        x.call(1, 0, 0, 500, 9, 0, 0);
        return x;
    }

    static void p22() {
        LatePrices x = bargains();
        due(x.gain(1, 6, false, 0), 0);
        due(x.gain(1, 7, false, 0), 35);
        due(x.gain(1, 7, false, 1), 4);
        due(x.gain(1, 7, true, 0), 10);
        due(x.gain(1, 7, true, 1), 2);
        due(x.gain(1, 25, false, 0), 35);
        due(x.gain(1, 26, false, 0), 30);
        due(x.gain(1, 26, false, 1), 3);
        due(x.gain(1, 26, true, 0), 0);
        due(x.gain(1, 33, false, 0), 30);
        due(x.gain(1, 34, false, 0), 9);
        // 2 knows of 1's 500 at 7 and of 0's at 12
        due(x.gain(2, 12, false, 0), 3 * 410 + 2 * 405);
        due(x.gain(2, 12, false, 1), 5);
        due(x.gain(2, 12, true, 0), 0);
        // minute 999: the deal comes above 999, that is not looked at
        due(x.gain(1, 999, false, 0), 9);
        // neither deals nor falling prices are looked at, only what is known to be taken back
        x.call(0, 0, 1, 80, 1, 2, 0);
        x.step(0, 1, 1);
        due(x.gain(1, 40, false, 0), 13 + 9);
        x.deal(1, 0, 10, 3);
        due(x.gain(1, 40, false, 0), 13 + 9);
        x.takeBack(5, 35);
        due(x.gain(1, 39, false, 0), 13 + 9);
        due(x.gain(1, 40, false, 0), 9);
        due(x.gain(3, 0, false, 0), BAD);
        due(x.gain(-1, 0, false, 0), BAD);
        due(x.gain(0, -1, true, 0), BAD);
        due(x.gain(0, 1000, true, 0), BAD);
        due(x.gain(0, 0, true, -1), BAD);
        due(x.gain(0, 0, true, 2), BAD);
        // a unit that brings nothing is not counted
        LatePrices y = made(LINE);
        y.call(0, 0, 1, 50, 3, 1, 99);
        y.call(2, 0, 0, 50, 3, 1, 99);
        due(y.gain(1, 20, true, 0), 0);
        due(y.gain(1, 20, true, 1), 0);
        LatePrices z = made(LINE);
        z.call(2, 0, 0, 51, 3, 1, 99);
        z.call(0, 0, 1, 50, 4, 1, 99);
        due(z.gain(1, 20, true, 0), 3);
        due(z.gain(1, 20, true, 1), 3);
    }

    static void p23() {
        LatePrices x = bargains();
        due(x.chance(1, 0, false), 7);
        due(x.chance(1, 0, true), 7);
        due(x.chance(1, 8, true), 8);
        due(x.chance(1, 25, true), 25);
        due(x.chance(1, 26, true), NONE);
        due(x.chance(1, 999, false), 999);
        due(x.chance(0, 0, false), NONE);
        due(x.chance(2, 0, false), 12);
        x.takeBack(0, 10);
        due(x.chance(1, 0, false), 7);
        due(x.chance(1, 26, false), NONE);
        x.call(0, 990, 1, 1, 1, 0, 0);
        due(x.chance(1, 26, false), 995);
        due(x.chance(3, 0, false), BAD);
        due(x.chance(-1, 0, false), BAD);
        due(x.chance(0, -1, false), BAD);
        due(x.chance(0, 1000, false), BAD);
        LatePrices y = made(LINE);
        y.call(2, 0, 0, 50, 3, 1, 99);
        y.call(0, 0, 1, 50, 4, 1, 99);
        due(y.chance(1, 0, false), NONE);
        y.call(0, 0, 1, 49, 4, 1, 99);
        due(y.chance(1, 0, false), 7);
    }

    private static LatePrices debts() {
        LatePrices x = made(STAR + "most 120;");
        x.call(0, 0, 1, 50, 5, 0, 0);
        x.call(2, 0, 0, 20, 10, 1, 60);
        x.deal(1, 0, 10, 2);
        x.deal(2, 0, 20, 3);
        x.deal(0, 1, 40, 4);
        return x;
    }

    static void p24() {
        LatePrices x = debts();
        // struck at 20: 1 owes 0 100; at 25: 2 owes 0 150; at 45: 2 owes 0 80
        due(x.owes(1, 0, 19, 0), 0);
        due(x.owes(1, 0, 20, 0), 100);
        due(x.owes(0, 0, 24, 0), -100);
        due(x.owes(0, 0, 25, 0), -250);
        due(x.owes(0, 0, 44, 0), -250);
        due(x.owes(0, 0, 45, 0), -330);
        due(x.owes(2, -9, 45, 0), 230);
        due(x.owes(1, 1, 29, 1), 0);
        due(x.owes(1, 1, 30, 1), 100);
        due(x.owes(1, 0, 20, 1), 100);
        due(x.owes(0, 2, 29, 1), -100);
        due(x.owes(0, 2, 30, 1), -250);
        due(x.owes(0, 3, 39, 1), 0);
        due(x.owes(0, 3, 45, 1), -250);
        due(x.owes(0, 3, 69, 1), -250);
        due(x.owes(0, 3, 70, 1), -330);
        due(x.owes(0, 2, 45, 1), -330);
        // at most: its call to buy ten at 20, four of them struck at 45, till 60
        due(x.owes(2, -9, 0, 2), 200);
        due(x.owes(2, 99, 25, 2), 350);
        due(x.owes(2, 0, 45, 2), 350);
        due(x.owes(2, 0, 60, 2), 350);
        due(x.owes(2, 0, 61, 2), 230);
        due(x.owes(0, 0, 0, 2), 0);
        due(x.owes(4, 0, 0, 0), WORST);
        due(x.owes(-1, 0, 0, 2), WORST);
        due(x.owes(0, 4, 0, 1), WORST);
        due(x.owes(0, -1, 0, 1), WORST);
        due(x.owes(0, 0, -1, 0), WORST);
        due(x.owes(0, 0, 1000, 0), WORST);
        due(x.owes(0, 0, 0, -1), WORST);
        due(x.owes(0, 0, 0, 3), WORST);
    }

    static void p25() {
        LatePrices x = debts();
        due(x.over(0), 4);
        due(x.over(60), 4);
        x.call(1, 30, 0, 20, 1, 0, 0);
        due(x.over(29), 4);
        due(x.over(30), 4);
        x.call(1, 30, 0, 1, 1, 1, 31);
        due(x.over(30), 6);
        due(x.over(32), 4);
        due(x.over(-1), BAD);
        due(x.over(1000), BAD);
    }

    static void p26() {
        LatePrices x = debts();
        due(x.peak(1, 0), 20);
        due(x.peak(1, 1), 100);
        due(x.peak(2, 0), 45);
        due(x.peak(2, 1), 230);
        due(x.peak(0, 0), 0);
        due(x.peak(0, 1), 0);
        due(x.peak(3, 0), 0);
        // what it owes the most of twice: the first
        x.call(2, 0, 0, 50, 1, 0, 0);
        x.call(1, 0, 1, 50, 1, 0, 0);
        x.deal(1, 2, 85, 1);
        x.call(2, 0, 1, 50, 1, 0, 0);
        x.deal(1, 4, 185, 1);
        due(x.owes(1, 0, 200, 0), 100);
        due(x.peak(1, 0), 20);
        due(x.peak(1, 1), 100);
        due(x.peak(4, 0), WORST);
        due(x.peak(-1, 0), WORST);
        due(x.peak(0, -1), WORST);
        due(x.peak(0, 2), WORST);
        // told the other way round, of one unit each
        LatePrices y = made(STAR);
        y.call(0, 0, 1, 50, 9, 0, 0);
        y.deal(2, 0, 30, 1);
        y.deal(2, 0, 20, 1);
        y.deal(2, 0, 40, 1);
        due(y.peak(2, 0), 45);
        due(y.peak(2, 1), 150);
        y.takeBack(0, 40);
        due(y.peak(2, 0), 35);
        due(y.peak(2, 1), 100);
        y.takeBack(0, 30);
        due(y.peak(2, 0), 25);
        due(y.peak(2, 1), 50);
    }

    // 27 to 29: the common book

    static void p27() {
        LatePrices x = made(LINE + "shut 0 1 10 19;");
        // from 2 to 0: at 1 from 16 on, it waits there till 20
        due(x.waits(0, 9), 16);
        due(x.waits(1, 9), 7);
        due(x.waits(2, 9), 12);
        due(x.waits(0, 10), 15);
        due(x.waits(1, 10), 15);
        due(x.waits(0, 3), 22);
        due(x.waits(0, 999), 12);
        due(x.waits(3, 0), BAD);
        due(x.waits(-1, 0), BAD);
        due(x.waits(0, -1), BAD);
        due(x.waits(0, 1000), BAD);
        due(made(FOUR).waits(0, 0), NONE);
        due(made(FOUR).waits(3, 0), NONE);
        due(made("place 5;").waits(0, 7), 0);
    }

    static void p28() {
        LatePrices x = made(LINE + "shut 0 1 10 19;");
        due(x.book(0, 0), 1);
        due(x.book(0, 1), 7);
        due(x.book(10, 0), 0);
        due(x.book(10, 1), 15);
        due(x.book(0, 2), BAD);
        due(x.book(0, -1), BAD);
        due(x.book(-1, 0), BAD);
        due(x.book(1000, 0), BAD);
        LatePrices y = made(FOUR);
        due(y.book(0, 0), NONE);
        due(y.book(0, 1), NONE);
        due(made("place 5;").book(0, 0), 0);
        due(made("place 5;").book(0, 1), 0);
        due(new LatePrices().book(0, 1), NONE);
        due(new LatePrices().book(0, 2), BAD);
    }

    static void p29() {
        LatePrices x = made(LINE + "shut 0 1 10 19;");
        due(x.enough(1, 0, 9), 7);
        due(x.enough(1, 0, 999), 15);
        due(x.enough(1, 11, 999), 14);
        due(x.enough(1, 11, 11), 14);
        due(x.enough(1, 25, 999), 7);
        // from 2 to 0: what leaves at 3 meets the shut at 1
        due(x.enough(0, 0, 2), 12);
        due(x.enough(0, 0, 3), 22);
        due(x.enough(0, 4, 999), 21);
        due(x.enough(1, 5, 4), BAD);
        due(x.enough(3, 0, 0), BAD);
        due(x.enough(-1, 0, 0), BAD);
        due(x.enough(0, -1, 0), BAD);
        due(x.enough(0, 0, 1000), BAD);
        due(x.enough(0, 1000, 1000), BAD);
        due(made(FOUR).enough(0, 0, 0), NONE);
        due(made(LINE + "shut 0 1 0 999;").enough(1, 0, 999), 1005);
    }

    // 30 to 33: how far apart

    static void p30() {
        LatePrices x = new LatePrices();
        due(x.odds(0, 0, 0), 1);
        due(x.odds(0, 0, 1), 1);
        due(x.odds(0, 1, 0), 0);
        due(x.odds(0, 1, 1), 1);
        due(x.odds(1, -1, 0), 1);
        due(x.odds(1, -1, 1), 4);
        due(x.odds(1, 0, 0), 1);
        due(x.odds(1, 0, 1), 2);
        due(x.odds(2, 1, 0), 1);
        due(x.odds(2, 1, 1), 4);
        due(x.odds(12, 12, 0), 1);
        due(x.odds(12, 12, 1), 1 << 24);
        due(x.odds(11, 12, 0), 0);
        due(x.odds(11, 12, 1), 1);
        due(x.odds(-1, 0, 0), BAD);
        due(x.odds(13, 0, 0), BAD);
        due(x.odds(0, -13, 0), BAD);
        due(x.odds(0, 13, 0), BAD);
        due(x.odds(0, 0, -1), BAD);
        due(x.odds(0, 0, 2), BAD);
        // down 1, stays 0, up 2: down in the first figure
        LatePrices y = made("moves 1 0 2;");
        due(y.odds(1, -1, 0), 1);
        due(y.odds(1, 1, 0), 2);
        due(y.odds(1, 1, 1), 3);
        due(y.odds(2, 0, 0), 4);
        due(y.odds(2, 0, 1), 9);
        LatePrices z = made("moves 4 3 4;");
        due(z.odds(12, -12, 0), 16777216L);
        due(z.odds(12, -12, 1), 3138428376721L);
        due(made("moves 4 4 4;").odds(12, 12, 1), 531441);
        due(made("moves 0 4 0;").odds(12, 0, 1), 1);
    }

    static void p31() {
        LatePrices x = new LatePrices();
        due(x.loss(0, 0, 0), 0);
        due(x.loss(0, 0, 1), 1);
        due(x.loss(1, 0, 0), 1);
        due(x.loss(1, 0, 1), 2);
        due(x.loss(1, 1, 0), 0);
        // 1 4 6 4 1 of 16: 8 + 4 off beyond 0, 2 beyond 1
        due(x.loss(2, 0, 0), 3);
        due(x.loss(2, 0, 1), 4);
        due(x.loss(2, 1, 0), 1);
        due(x.loss(2, 1, 1), 8);
        due(x.loss(12, 11, 0), 1);
        due(x.loss(12, 11, 1), 1 << 23);
        due(x.loss(12, 12, 0), 0);
        due(x.loss(12, 12, 1), 1);
        due(x.loss(-1, 0, 0), BAD);
        due(x.loss(13, 0, 0), BAD);
        due(x.loss(0, -1, 0), BAD);
        due(x.loss(0, 13, 0), BAD);
        due(x.loss(0, 0, -1), BAD);
        due(x.loss(0, 0, 2), BAD);
        due(made("moves 4 0 0;").loss(12, 3, 0), 9);
        due(made("moves 0 0 1;").loss(7, 3, 0), 4);
    }

    static void p32() {
        LatePrices x = new LatePrices();
        due(x.wide(0, 0, 1), 0);
        due(x.wide(2, 0, 1), 2);
        due(x.wide(2, 1, 8), 1);
        due(x.wide(2, 1, 9), 2);
        due(x.wide(2, 3, 4), 0);
        due(x.wide(2, 2, 3), 1);
        due(x.wide(2, 999, 1), 0);
        due(x.wide(12, 0, 999), 12);
        due(x.wide(12, 1, 999), 8);
        due(x.wide(-1, 0, 1), BAD);
        due(x.wide(13, 0, 1), BAD);
        due(x.wide(0, -1, 1), BAD);
        due(x.wide(0, 1000, 1), BAD);
        due(x.wide(0, 0, 0), BAD);
        due(x.wide(0, 0, 1000), BAD);
        due(x.wide(0, 0, -1), BAD);
        due(made("moves 4 0 0;").wide(12, 1, 1), 11);
        due(made("moves 4 0 0;").wide(12, 12, 1), 0);
    }

    static void p33() {
        LatePrices x = new LatePrices();
        due(x.near(2, 1, 0, 0), 1);
        due(x.near(2, 1, 0, 1), 4);
        due(x.near(2, 0, 1, 0), 1);
        due(x.near(2, 0, 1, 1), 8);
        due(x.near(5, 5, 0, 0), 0);
        due(x.near(5, 5, 0, 1), 1);
        due(x.near(1, 2, 0, 0), BAD);
        due(x.near(2, -1, 0, 0), BAD);
        due(x.near(-1, -1, 0, 0), BAD);
        due(x.near(13, 0, 0, 0), BAD);
        due(x.near(2, 1, -1, 0), BAD);
        due(x.near(2, 1, 13, 0), BAD);
        due(x.near(2, 1, 0, -1), BAD);
        due(x.near(2, 1, 0, 2), BAD);
        due(made("moves 4 0 0;").near(12, 2, 1, 0), 10);
    }

    // 34 to 40: images, sheets

    static void p34() {
        LatePrices x = made(LINE);
        due(x.keep(0), 0);
        due(x.keep(0), 1);
        due(x.keep(1), 0);
        due(x.keep(-1), BAD);
        due(x.keep(2), BAD);
        tell(x, "x");
        due(x.keep(0), 1);
        tell(x, LINE);
        due(x.keep(0), 0);
    }

    static void p35() {
        LatePrices x = made(LINE);
        due(x.back(0), STATE);
        due(x.back(-1), BAD);
        due(x.back(2), BAD);
        x.step(0, 5, 7);
        x.call(0, 0, 1, 9, 9, 0, 0);
        x.call(0, 0, 1, 9, 9, 0, 0);
        x.takeBack(0, 50);
        x.deal(1, 0, 10, 3);
        x.keep(0);
        x.takeBack(0, 11);
        x.step(0, 5, 8);
        x.deal(1, 1, 10, 4);
        x.keep(1);
        due(x.back(0), 2);
        due(x.price(0, 5), 7);
        due(x.count(0), 1);
        due(x.count(2), 1);
        due(x.of(0, 7), 49);
        due(x.sent(0, 5), 3);
        // what is done behind going back does not change the image
        x.takeBack(0, NONE);
        x.step(0, 5, 9);
        due(x.back(0), 2);
        due(x.of(0, 7), 49);
        due(x.price(0, 5), 7);
        due(x.back(1), 2);
        due(x.of(0, 7), 10);
        due(x.count(2), 2);
        due(x.price(0, 5), 8);
        tell(x, "place 5");
        due(x.back(1), 2);
        tell(x, LINE);
        due(x.back(0), STATE);
        due(x.back(1), STATE);
    }

    static void p36() {
        LatePrices x = new LatePrices();
        due(x.sheet(0, 0, 0), 1);
        due(x.count(5), 0);
        due(x.sheet(0, 2, 40), 1);
        due(x.count(5), 40);
        due(x.sheet(0, 1, 41), BAD);
        due(x.sheet(0, 1, -1), -14);
        due(x.sheet(0, 1, LOW), -14);
        due(x.sheet(0, -1, -1), BAD);
        due(x.sheet(0, 3, 1), BAD);
        due(x.sheet(-1, 0, -1), BAD);
        due(x.sheet(4, 0, 1), BAD);
        due(x.count(5), 40);
        due(x.lay(0, 39, 5), 1);
        due(x.sheet(3, 0, 1), 1);
        due(x.count(5), 40);
        due(x.lay(3, 0, 1), 1);
        due(x.lay(3, 1, 1), -12);
        // a new row has cells 0 again: price 0 is refused
        tell(x, LINE);
        x.sheet(1, 2, 3);
        x.lay(1, 2, 5);
        due(x.read(1, 2, 0, 1), 1);
        x.sheet(1, 2, 3);
        due(x.read(1, 2, 0, 1), -20);
    }

    static void p37() {
        LatePrices x = made(LINE);
        due(x.lay(0, 0, 0), -11);
        due(x.lay(0, -1, 0), -11);
        due(x.lay(4, 0, 0), BAD);
        due(x.lay(-1, 0, 0), BAD);
        x.sheet(0, 0, 3);
        due(x.lay(0, 3, 0), -12);
        due(x.lay(0, -1, 0), -12);
        due(x.lay(0, LOW, 0), -12);
        due(x.lay(0, HIGH, 0), -12);
        // the lowest eight bits, with a sign
        due(x.lay(0, 0, 256), 1);
        due(x.lay(0, 1, 0x1234567f), 1);
        due(x.lay(0, 2, 1000), 1);
        due(x.read(0, 0, 0, 1), -20);
        due(x.lay(0, 2, 257), 1);
        due(x.read(0, 0, 0, 1), 1);
        due(x.price(0, 126), 100);
        due(x.price(0, 127), 1);
        // the lowest sixteen
        x.sheet(1, 1, 3);
        x.lay(1, 0, 0x10001);
        x.lay(1, 1, 999 - 65536);
        x.lay(1, 2, 300);
        due(x.read(1, 1, 0, 1), 1);
        due(x.price(1, 998), 90);
        due(x.price(1, 999), 300);
        x.lay(1, 1, 32768);
        due(x.read(1, 1, 0, 1), -20);
        // all
        x.sheet(2, 2, 3);
        x.lay(2, 0, 0x10000);
        x.lay(2, 2, 1);
        due(x.read(2, 2, 0, 1), -20);
        x.lay(2, 0, 2);
        due(x.read(2, 2, 0, 1), 1);
        due(x.price(2, 0), 1);
    }

    private static void lay(LatePrices x, int k, int from, int... cells) {
        for (int i = 0; i < cells.length; i++) {
            x.lay(k, from + i, cells[i]);
        }
    }

    static void p38() {
        LatePrices x = made(LINE);
        x.sheet(0, 1, 8);
        lay(x, 0, 0, 0, 5, 50, 1, 6, 60, 2, 7);
        due(x.read(0, 1, 0, 3), 2);
        due(x.count(0), 2);
        due(x.price(0, 5), 50);
        due(x.price(1, 6), 60);
        due(x.read(0, 1, 0, 1), 1);
        due(x.count(0), 3);
        due(x.read(0, 1, 1, 2), -20);
        due(x.read(0, 1, 5, 1), -20);
        due(x.read(0, 1, 6, 1), 0);
        due(x.read(0, 1, 8, 1), 0);
        due(x.read(0, 1, -1, 2), 0);
        due(x.read(0, 1, HIGH, 13), 0);
        due(x.read(0, 1, LOW, 13), 0);
        due(x.read(0, 0, 0, 2), 0);
        due(x.read(0, 2, 0, 2), 0);
        due(x.read(1, 1, 0, 2), 0);
        due(x.read(1, 1, HIGH, 0), 0);
        due(x.count(0), 3);
        due(x.read(-1, 1, 0, 0), BAD);
        due(x.read(4, 1, 0, 0), BAD);
        due(x.read(0, -1, 0, 0), BAD);
        due(x.read(0, 3, 0, 0), BAD);
        due(x.read(0, 1, 0, -1), BAD);
        due(x.read(0, 1, 0, 14), BAD);
        // a step that is refused: none comes, those ahead of it neither
        x.sheet(0, 1, 40);
        lay(x, 0, 0, 0, 1, 2, 0, 1, 3, 0, 1, 1000);
        due(x.read(0, 1, 0, 3), -22);
        due(x.read(0, 1, 0, 13), -22);
        due(x.count(0), 3);
        due(x.price(0, 1), 100);
        due(x.read(0, 1, 0, 2), 2);
        due(x.price(0, 1), 3);
        // no room: 5 and 13 are 18, 6 more are 24
        for (int i = 0; i < 13; i++) {
            lay(x, 0, 3 * i, 1, 100 + i, 1 + i);
        }
        due(x.read(0, 1, 0, 13), 13);
        due(x.read(0, 1, 0, 7), FULL);
        due(x.count(0), 18);
        lay(x, 0, 18, 1, 1, 0);
        due(x.read(0, 1, 0, 7), -26);
        lay(x, 0, 21, 1, 1, 0);
        lay(x, 0, 18, 1, 1, 1);
        due(x.read(0, 1, 0, 8), FULL);
        due(x.read(0, 1, 0, 6), 6);
        due(x.count(0), 24);
        due(x.read(0, 1, 0, 1), FULL);
        due(x.read(0, 1, 0, 0), 0);
        due(x.read(0, 1, 38, 1), 0);
    }

    static void p39() {
        LatePrices x = made(LINE);
        due(x.torn(), 0);
        x.read(0, 0, 0, 1);
        due(x.torn(), 1);
        x.read(0, 0, 0, 14);
        due(x.torn(), 1);
        x.read(0, 0, 5, 0);
        due(x.torn(), 0);
        x.sheet(0, 0, 5);
        x.read(0, 1, 0, 1);
        due(x.torn(), 3);
        x.read(0, 0, 0, 1);
        due(x.torn(), 3);
        x.read(0, 0, 3, 1);
        due(x.torn(), 2);
        lay(x, 0, 0, 1, 2, 3);
        due(x.read(0, 0, 0, 1), 1);
        due(x.torn(), 0);
        due(x.read(0, 0, 0, 2), 1);
        due(x.torn(), 2);
        tell(x, LINE);
        due(x.torn(), 2);
        due(x.sheet(0, 0, -1), -14);
        due(x.torn(), 2);
    }

    static void p40() {
        LatePrices x = made(LINE);
        x.step(0, 1, 2);
        x.call(0, 0, 1, 9, 9, 0, 0);
        x.call(0, 0, 1, 9, 9, 0, 0);
        x.deal(1, 0, 10, 3);
        x.deal(1, 0, 10, 3);
        x.deal(1, 0, 10, 3);
        due(x.count(0), 1);
        due(x.count(1), 2);
        due(x.count(2), 3);
        due(x.count(3), 0);
        x.keep(1);
        due(x.count(3), 1);
        x.keep(0);
        due(x.count(3), 2);
        x.back(0);
        due(x.count(3), 2);
        x.feed(0);
        due(x.count(4), 8);
        x.end(5);
        due(x.count(4), 5);
        due(x.count(5), NONE);
        x.sheet(1, 0, 7);
        due(x.count(5), NONE);
        x.sheet(0, 0, 7);
        due(x.count(5), 7);
        due(x.count(-1), BAD);
        due(x.count(6), BAD);
        x.end(0);
        tell(x, "");
        due(x.count(0), 0);
        due(x.count(1), 0);
        due(x.count(2), 0);
        due(x.count(3), 0);
        due(x.count(4), 0);
        due(x.count(5), 7);
    }

    public static void main(String[] args) throws Exception {
        for (promise = 1; promise <= 40; promise++) {
            int before = asked;
            Method test = PromisesTest.class.getDeclaredMethod("p" + promise);
            test.invoke(null);
            if (asked == before) {
                wrong++;
                System.out.println("promise " + promise + ": nothing was asked");
            }
        }
        System.out.println(asked + " answers, " + wrong + " not as due");
        if (wrong != 0) {
            System.exit(1);
        }
    }
}
