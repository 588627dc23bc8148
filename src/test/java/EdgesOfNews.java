/** What the document says of NEWS, of prices and of the common book; promises 8 to 12, 27 to 29. */
final class EdgesOfNews {
    private static final int BAD = Run.BAD, FULL = Run.FULL, NONE = Run.NONE;
    private static final int T = Sentences.TERMS;
    private static final String TWO = "place 1;place 2;way 0 1 5;";
    /** 0 -9- 1 -3- 2, 0 -20- 2, 3 apart; 0 1 is shut in minutes 20 to 44. */
    private static final String ROUND = "place 100;place 90;place 110;place 95;way 0 1 9;way 1 2 3;"
            + "way 2 0 20;shut 1 0 20 40;shut 0 1 41 44;";
    /** As far apart as may be. */
    static final String CHAIN = "place1;place1;place1;place1;place1;"
            + "way 0 1 99;way 1 2 99;way 2 3 99;way 3 4 99;shut 3 4 999 999;shut 0 1 999 999;";

    private EdgesOfNews() {
    }

    private static void says(int section, String sentence) {
        Sentences.says(section, sentence);
    }

    static void terms() {
        says(T, "2 NEWS leaves a PLACE by a way at a MINUTE that is not shut (a way may be shut more "
                + "than once) and is at its other end so many minutes later;");
        Run x = Run.of(TWO + "shut 0 1 30 30;shut 1 0 14 20;shut 0 1 10 12;shut 0 1 13 15;");
        x.due("comes(0, 1, 0)", 5).due("comes(0, 1, 9)", 14).due("comes(0, 1, 10)", 26);
        x.due("comes(0, 1, 20)", 26).due("comes(0, 1, 21)", 26).due("comes(0, 1, 22)", 27);
        x.due("comes(1, 0, 29)", 34).due("comes(1, 0, 30)", 36).due("comes(1, 0, 31)", 36);
        Run.of("place 1;place 1;way 0 1 1;").due("comes(0, 1, 0)", 1).due("comes(1, 0, 7)", 8);
        Run.of("place 1;place 1;way 0 1 99;").due("comes(0, 1, 0)", 99);
        twelveShuts();

        says(T, "it goes on at once by all ways: it COMES to a PLACE at the earliest MINUTE at which it "
                + "can be there (its own PLACE: at once; above 9999: never).");
        Run y = Run.of(ROUND);
        // on by 1: 9 and 3; round by 2, as long as that is earlier than to wait
        y.due("comes(0, 2, 0)", 12).due("comes(0, 2, 19)", 31).due("comes(0, 2, 20)", 40);
        y.due("comes(0, 1, 19)", 28).due("comes(0, 1, 20)", 43).due("comes(0, 1, 31)", 54);
        y.due("comes(0, 2, 37)", 57).due("comes(0, 2, 38)", 57).due("comes(0, 2, 44)", 57);
        y.due("comes(2, 0, 16)", 28).due("comes(2, 0, 17)", 37).due("comes(2, 0, 999)", 1011);
        // it waits on the way as well
        y.due("comes(2, 0, 34)", 54).due("comes(2, 0, 41)", 54).due("comes(2, 0, 42)", 54);
        y.due("comes(0, 0, 20)", 20).due("comes(3, 3, 0)", 0).due("comes(3, 3, 999)", 999);
        y.due("comes(0, 3, 0)", NONE).due("comes(3, 0, 999)", NONE);
        // the way straight there is not always the first, wherever it goes on
        Run by = Run.of("place 1;place 1;place 1;place 1;way 0 1 1;way 0 2 10;way 1 2 1;way 2 3 1;");
        by.each("comes(0, %, 7)", 7, 8, 9, 10).each("comes(3, %, 7)", 10, 9, 8, 7);
        by.each("knows(%, 0, 7, 0)", 7, 6, 5, 4).each("knows(%, 3, 7, 0)", 4, 5, 6, 7);
        by.each("knows(%, 0, 20, 0)", 20, 19, 18, 17).each("knows(%, 3, 20, 0)", 17, 18, 19, 20);
        by.each("knows(3, %, 3, 0)", 0, 1, 2, 3).each("knows(3, %, 2, 0)", NONE, 0, 1, 2);
        Run as = Run.of("place 1;place 1;place 1;place 1;way 3 0 1;way 3 2 10;way 0 2 1;way 2 1 1;");
        as.each("comes(3, %, 7)", 8, 10, 9, 7).each("comes(1, %, 7)", 9, 7, 8, 10);
        as.each("knows(%, 3, 20, 0)", 19, 17, 18, 20).each("knows(%, 1, 20, 0)", 18, 20, 19, 17);
        Run far = Run.of(CHAIN);
        far.due("comes(0, 4, 0)", 396).due("comes(0, 4, 999)", 1396).due("comes(4, 0, 999)", 1396);
        far.due("comes(0, 4, 603)", 999).due("comes(0, 4, 604)", 1000).due("comes(1, 3, 999)", 1197);
        // 0 is at 3 in minute 999 and waits there
        far.due("comes(0, 4, 702)", 1099).due("comes(0, 4, 701)", 1097);

        says(T, "STEPS (24): from a MINUTE on the PRICE of a PLACE is another one (of one MINUTE the "
                + "latest told).");
        Run s = Run.of(TWO).does("step(0, 10, 11)", "step(0, 5, 12)", "step(1, 7, 13)");
        s.due("price(0, 4)", 1).due("price(0, 5)", 12).due("price(0, 9)", 12).due("price(0, 10)", 11);
        s.due("price(0, 999)", 11).due("price(1, 6)", 2).due("price(1, 7)", 13);
        s.does("step(0, 10, 14)", "step(0, 5, 15)", "step(0, 0, 16)", "step(0, 999, 17)");
        s.due("price(0, 10)", 14).due("price(0, 5)", 15).due("price(0, 9)", 15).due("price(0, 0)", 16);
        s.due("price(0, 4)", 16).due("price(0, 998)", 14).due("price(0, 999)", 17);
        for (int i = 7; i < 23; i++) {
            s.does("step(0, 10, 14)");
        }
        s.due("step(1, 0, 18)", 24).due("price(1, 0)", 18).refuses("step(1, 0, 19)", FULL);

        says(T, "A PLACE KNOWS of another one at MINUTE t all that left it at m, if that COMES by t; "
                + "the latest such m is its LATEST; t less that is the AGE.");
        Run k = Run.of(TWO + "shut 0 1 10 19;").does("step(0, 10, 33)", "step(0, 20, 44)");
        k.each("knows(1, 0, 4, %)", NONE, NONE, NONE).each("knows(1, 0, 5, %)", 0, 5, 1);
        k.each("knows(1, 0, 14, %)", 9, 5, 1).each("knows(1, 0, 15, %)", 9, 6, 1);
        k.each("knows(1, 0, 24, %)", 9, 15, 1).each("knows(1, 0, 25, %)", 20, 5, 44);
        k.each("knows(1, 0, 26, %)", 21, 5, 44).each("knows(1, 0, 999, %)", 994, 5, 44);
        Run early = Run.of(TWO + "shut 0 1 0 3;");
        early.due("knows(1, 0, 8, 0)", NONE).due("knows(1, 0, 9, 0)", 4);
        Run r = Run.of(ROUND);
        r.due("knows(1, 0, 42, 0)", 19).due("knows(1, 0, 43, 0)", 20).due("knows(1, 0, 53, 0)", 30);
        r.due("knows(1, 0, 54, 0)", 45);

        says(T, "A BOOK at a PLACE: its WAIT at a MINUTE is the time until all that all PLACES send in "
                + "that MINUTE has COME there.");
        Run b = Run.of(EdgesOfText.LINE + "shut 0 1 10 19;");
        b.each("waits(%, 0)", 12, 7, 12).each("waits(%, 3)", 22, 7, 12).each("waits(%, 4)", 21, 7, 12);
        b.each("waits(%, 10)", 15, 15, 22).each("waits(%, 19)", 12, 7, 13).each("waits(%, 999)", 12, 7, 12);
        Run.of("place 5;").due("waits(0, 0)", 0).due("waits(0, 999)", 0);
        Run.of(CHAIN).due("waits(0, 999)", 397).due("waits(2, 999)", 199).due("waits(2, 998)", 198);
    }

    /** So many shuts that each begins where another ends, told in the order that is worst. */
    private static void twelveShuts() {
        for (boolean down : new boolean[] {true, false}) {
            StringBuilder text = new StringBuilder(TWO);
            for (int i = 0; i < 12; i++) {
                int m = down ? 21 - i : 10 + i;
                text.append("shut 0 1 ").append(m).append(' ').append(m).append(';');
            }
            Run x = Run.of(text.toString()).due("told(2)", 12);
            x.due("comes(0, 1, 9)", 14).due("comes(0, 1, 10)", 27).due("comes(0, 1, 21)", 27);
            x.due("comes(0, 1, 22)", 27).due("knows(1, 0, 26, 0)", 9).due("knows(1, 0, 27, 0)", 22);
            x.due("enough(1, 0, 9)", 5).due("enough(1, 0, 10)", 17).due("enough(0, 21, 999)", 6);
        }
    }

    // ---- promises 8 to 12

    static void promises() {
        Run x = EdgesOfText.rich();
        Run apart = Run.of(EdgesOfText.APART);
        says(8, "When what leaves a at a MINUTE COMES to b; NONE: never.");
        x.copy().due("comes(0, 1, 9)", 14).due("comes(0, 1, 10)", 25).due("comes(1, 1, 10)", 10)
                .due("comes(0, 2, 999)", 1011);
        apart.due("comes(0, 1, 0)", NONE).due("comes(1, 0, 999)", NONE).due("comes(0, 0, 5)", 5);
        says(8, "BAD.");
        x.bounds("comes(%, 1, 0)", 0, 5, 2, 7).bounds("comes(0, %, 0)", 0, 0, 2, 12);
        x.bounds("comes(0, 1, %)", 0, 5, 999, 1004);

        says(9, "The LATEST of a (by news) that b KNOWS at a MINUTE (what 0), its AGE (1), its PRICE "
                + "(2).");
        x.copy().each("knows(1, 0, 34, %)", 29, 5, 50).each("knows(1, 0, 35, %)", 30, 5, 120)
                .each("knows(0, 0, 30, %)", 30, 0, 120).each("knows(2, 0, 999, %)", 987, 12, 120);
        says(9, "BAD; NONE: nothing has come.");
        x.bounds("knows(%, 1, 999, 0)", 0, 994, 2, 992).bounds("knows(1, %, 999, 0)", 0, 994, 2, 992);
        x.bounds("knows(1, 0, %, 0)", 0, NONE, 999, 994).bounds("knows(1, 0, 999, %)", 0, 994, 2, 120);
        x.copy().each("knows(2, 0, 11, %)", NONE, NONE, NONE).each("knows(2, 0, 12, %)", 0, 12, 100);
        apart.each("knows(0, 1, 999, %)", NONE, NONE, NONE).each("knows(1, 1, 0, %)", 0, 0, 20);

        says(10, "A STEP: from a MINUTE on a PLACE's PRICE is v (1 to 999): how many there are.");
        Run s = Run.of(EdgesOfText.LINE).due("step(0, 5, 1)", 1).due("step(0, 999, 999)", 2);
        s.due("price(0, 4)", 100).due("price(0, 5)", 1).due("price(0, 998)", 1);
        s.due("price(0, 999)", 999).due("price(1, 5)", 90);
        for (int i = 3; i <= 24; i++) {
            s.due("step(1, 0, 5)", i);
        }
        says(10, "BAD; FULL.");
        s.refuses("step(1, 0, 6)", FULL).refuses("step(0, 0, 0)", BAD).refuses("step(3, 0, 1)", BAD);
        x.bounds("step(%, 7, 5)", 0, 5, 2, 5).bounds("step(0, %, 5)", 0, 5, 999, 5);
        x.bounds("step(0, 7, %)", 1, 5, 999, 5);

        says(11, "The PRICE of a PLACE in a MINUTE.");
        x.copy().due("price(0, 0)", 100).due("price(0, 4)", 100).due("price(0, 5)", 50)
                .due("price(0, 29)", 50).due("price(0, 30)", 120).due("price(2, 999)", 110);
        says(11, "BAD.");
        x.bounds("price(%, 0)", 0, 100, 2, 110).bounds("price(0, %)", 0, 100, 999, 120);

        promiseOfDearest(x, apart);
        promisesOfBook(x, apart);
    }

    private static void promiseOfDearest(Run x, Run apart) {
        says(12, "Of all PLACES that with the highest PRICE in a MINUTE (what 0), the lowest (1), of "
                + "several the least;");
        Run d = Run.of("place 5;place 5;place 5;way 0 1 3;way 1 2 4;");
        d.each("dearest(0, 0, %)", 0, 0).does("step(2, 7, 6)", "step(1, 8, 6)");
        d.each("dearest(0, 6, %)", 0, 0).each("dearest(0, 7, %)", 2, 0).each("dearest(0, 8, %)", 1, 0);
        d.does("step(0, 9, 7)").each("dearest(0, 9, %)", 0, 1).each("dearest(0, 999, %)", 0, 1);
        says(12, "as a PLACE KNOWS it: 2, 3 (of those of which something has come).");
        // 1 knows of 2's 6 from 11 on, of its own from 8 on; 0 of 1's from 11, of 2's from 14 on
        d.due("dearest(1, 7, 2)", 0).due("dearest(1, 8, 2)", 1).due("dearest(2, 7, 2)", 2);
        d.due("dearest(0, 8, 2)", 0).due("dearest(0, 9, 2)", 0);
        d.due("dearest(2, 11, 2)", 2).due("dearest(2, 12, 2)", 1).due("dearest(2, 12, 3)", 0);
        d.due("dearest(2, 15, 3)", 0).due("dearest(2, 16, 3)", 1).due("dearest(2, 16, 2)", 0);
        Run few = Run.of("place 5;place 4;place 6;way 0 1 3;way 1 2 4;");
        few.due("dearest(0, 2, 2)", 0).due("dearest(0, 2, 3)", 0).due("dearest(0, 3, 3)", 1);
        few.due("dearest(0, 6, 2)", 0).due("dearest(0, 7, 2)", 2).due("dearest(2, 0, 3)", 2);
        apart.due("dearest(0, 999, 2)", 0).due("dearest(1, 999, 3)", 1);
        says(12, "BAD; NONE: there are no PLACES.");
        x.bounds("dearest(0, 999, %)", 0, 0, 3, 1).bounds("dearest(0, %, 1)", 0, 1, 999, 1);
        x.bounds("dearest(0, %, 3)", 0, 0, 999, 1);
        x.bounds("dearest(%, 999, 2)", 0, 0, 2, 0).bounds("dearest(%, 999, 3)", 0, 1, 2, 1);
        Run none = Run.fresh().each("dearest(0, 0, %)", NONE, NONE, BAD, BAD, BAD);
        none.due("dearest(0, 1000, 0)", BAD).due("dearest(0, -1, 1)", BAD);
        says(12, "(what 0, 1: p is not looked at.)");
        for (String p : new String[] {"-1", "0", "2", "3", "LOW", "HIGH"}) {
            x.copy().due("dearest(" + p + ", 999, 0)", 0).due("dearest(" + p + ", 999, 1)", 1);
            none.due("dearest(" + p + ", 999, 0)", NONE).due("dearest(" + p + ", 999, 1)", NONE);
        }
    }

    // ---- promises 27 to 29

    private static void promisesOfBook(Run x, Run apart) {
        Run lonely = Run.of(EdgesOfText.LINE + "place 5;");
        says(27, "WAIT of a BOOK at a PLACE at a MINUTE.");
        x.copy().each("waits(%, 9)", 16, 7, 12).each("waits(%, 10)", 15, 15, 22)
                .each("waits(%, 20)", 12, 7, 12);
        says(27, "BAD; NONE: something never COMES there.");
        x.bounds("waits(%, 0)", 0, 12, 2, 12).bounds("waits(1, %)", 0, 7, 999, 7);
        lonely.each("waits(%, 0)", NONE, NONE, NONE, NONE, BAD);
        apart.each("waits(%, 999)", NONE, NONE, BAD);

        says(28, "The PLACE with the least WAIT at a MINUTE, of several the least (what 0), that WAIT "
                + "(1).");
        x.copy().each("book(9, %)", 1, 7).each("book(10, %)", 0, 15).each("book(11, %)", 0, 14)
                .each("book(12, %)", 0, 13).each("book(20, %)", 1, 7).each("book(999, %)", 1, 7);
        Run.of("place 5;place 5;way 0 1 3;").each("book(0, %)", 0, 3);
        Run.of("place 5;").each("book(0, %)", 0, 0);
        Run.of("place 1;place 1;place 1;way 0 1 9;way 1 2 2;way 2 0 8;").each("book(0, %)", 2, 8);
        says(28, "BAD; NONE: there is none.");
        x.bounds("book(%, 0)", 0, 1, 999, 1).bounds("book(0, %)", 0, 1, 1, 7);
        lonely.each("book(0, %)", NONE, NONE, BAD);
        apart.each("book(0, %)", NONE, NONE, BAD);
        Run.fresh().each("book(0, %)", NONE, NONE, BAD);

        says(29, "The least WAIT that is enough for a BOOK at a PLACE in all MINUTES from a to b (no "
                + "earlier).");
        Run e = x.copy();
        e.due("enough(1, 0, 9)", 7).due("enough(1, 0, 10)", 15).due("enough(1, 10, 10)", 15);
        e.due("enough(1, 11, 11)", 14).due("enough(1, 11, 999)", 14).due("enough(1, 18, 999)", 7);
        e.due("enough(0, 0, 2)", 12).due("enough(0, 0, 3)", 22).due("enough(0, 3, 3)", 22);
        e.due("enough(0, 4, 999)", 21).due("enough(0, 12, 999)", 13).due("enough(0, 13, 999)", 12);
        e.due("enough(2, 0, 9)", 12).due("enough(2, 0, 10)", 22).due("enough(2, 11, 999)", 21);
        Run.of(TWO + "shut 0 1 0 999;").due("enough(1, 0, 999)", 1005).due("enough(1, 999, 999)", 6);
        Run.of(CHAIN).due("enough(0, 0, 999)", 397).due("enough(4, 0, 701)", 396)
                .due("enough(4, 0, 702)", 397);
        Run.of("place 5;").due("enough(0, 0, 999)", 0);
        says(29, "BAD; NONE.");
        x.bounds("enough(%, 0, 999)", 0, 22, 2, 22).bounds("enough(1, %, 999)", 0, 15, 999, 7);
        x.bounds("enough(1, 0, %)", 0, 7, 999, 15).bounds("enough(1, 500, %)", 500, 7, 999, 7);
        x.bounds("enough(1, %, 10)", 0, 15, 10, 15);
        apart.due("enough(0, 0, 999)", NONE).due("enough(1, 7, 7)", NONE).due("enough(1, 7, 6)", BAD);
        lonely.each("enough(%, 0, 0)", NONE, NONE, NONE, NONE, BAD);
    }
}
