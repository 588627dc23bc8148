/** What the document says of CALLS and DEALS; promises 13 to 21. */
final class EdgesOfDeals {
    private static final int BAD = Run.BAD, STATE = Run.STATE, FULL = Run.FULL, NONE = Run.NONE;
    private static final int T = Sentences.TERMS;
    private static final String LINE = EdgesOfText.LINE, STAR = EdgesOfText.STAR;

    private EdgesOfDeals() {
    }

    private static void says(int section, String sentence) {
        Sentences.says(section, sentence);
    }

    // ---- CALLS

    static void calls() {
        says(T, "CALLS (12): of a PLACE from a MINUTE on: to BUY (0) or SELL (1) at a price so many "
                + "units;");
        Run x = Run.of(LINE);
        for (int i = 0; i < 12; i++) {
            x.due("call(0, 5, " + i % 2 + ", 10, 3, 0, 0)", i);
        }
        x.refuses("call(0, 5, 0, 10, 3, 0, 0)", FULL).due("count(1)", 12);
        x.each("stands(0, %)", 0, 0, 0, 0, 0, 1, 1).each("stands(11, %)", 0, 0, 0, 0, 0, 1, 1);
        // with one that buys 1 sells, with one that sells 1 buys
        x.does("deal(1, 0, 10, 2)").due("owes(1, 0, 15, 0)", -20).due("owes(0, 0, 15, 0)", 20);
        x.does("deal(1, 1, 20, 3)").due("owes(1, 0, 25, 0)", 10).due("owes(0, 0, 25, 0)", -10);

        says(T, "PLAIN (kind 0), TIMED (1): till a MINUTE, UNLESS (2): it falls for good at the first "
                + "MINUTE behind its own at which the PRICE of its PLACE is more than so much from that "
                + "of its MINUTE.");
        Run y = Run.of(LINE).does("call(0, 5, 0, 10, 3, 0, 0)", "call(0, 5, 0, 10, 3, 1, 5)",
                "call(0, 5, 0, 10, 3, 1, 8)", "call(0, 5, 0, 10, 3, 2, 0)", "call(0, 5, 0, 10, 3, 2, 3)",
                "call(0, 5, 0, 10, 3, 2, 999)");
        y.each("of(%, 7)", 999, 5, 8, 999, 999, 999);
        y.does("step(0, 6, 100)", "step(1, 6, 1)", "step(0, 4, 500)", "step(0, 5, 100)");
        y.each("of(%, 7)", 999, 5, 8, 999, 999, 999);
        y.does("step(0, 20, 103)").each("of(%, 7)", 999, 5, 8, 19, 999, 999);
        y.does("step(0, 30, 97)").each("of(%, 7)", 999, 5, 8, 19, 999, 999);
        y.does("keep(0)", "step(0, 40, 96)", "step(0, 41, 100)").each("of(%, 7)", 999, 5, 8, 19, 39, 999);
        y.due("stands(4, 40)", 0).due("stands(4, 41)", 0).due("stands(4, 999)", 0);
        y.does("back(0)", "step(0, 40, 104)", "step(0, 41, 100)");
        y.each("of(%, 7)", 999, 5, 8, 19, 39, 999);
        // a step that is told over in its own minute makes nothing fall
        y.does("step(0, 40, 103)").each("of(%, 7)", 999, 5, 8, 19, 999, 999);
        // at the first minute behind its own, and at the last of all
        y.does("back(0)", "step(0, 999, 104)").due("of(4, 7)", 998);
        y.does("step(0, 6, 1)").each("of(%, 7)", 999, 5, 8, 5, 5, 999);
        // what its own minute's price is counts from there: 1 is 3 from 4
        y.does("step(0, 5, 4)").each("of(%, 7)", 999, 5, 8, 5, 19, 999);
        Run most = Run.of("place 1;").does("call(0, 0, 0, 1, 1, 2, 998)", "call(0, 0, 0, 1, 1, 2, 997)");
        most.does("step(0, 1, 999)").each("of(%, 7)", 999, 0);
        Run last = Run.of("place 5;").does("call(0, 999, 0, 1, 1, 2, 0)", "step(0, 999, 7)");
        last.due("of(0, 7)", 999);

        says(T, "Any of them may be TAKEN BACK at a MINUTE.");
        Run b = Run.of(LINE).does("call(0, 5, 0, 10, 3, 0, 0)", "call(0, 5, 0, 10, 3, 1, 50)",
                "call(0, 5, 0, 10, 3, 2, 0)", "step(0, 60, 5)");
        b.each("takeBack(%, 40)", NONE, NONE, NONE).each("of(%, 7)", 39, 39, 39);
        b.each("takeBack(%, 55)", 40, 40, 40).each("of(%, 7)", 54, 50, 54);
        b.each("takeBack(%, 999)", 55, 55, 55).each("of(%, 7)", 998, 50, 59);
        b.each("takeBack(%, 5)", 999, 999, 999).each("of(%, 7)", 4, 4, 4);

        says(T, "It STANDS in MINUTES from its own on to 999 (in none above), to that of TIMED, ahead of "
                + "that at which it falls, of that at which it is TAKEN BACK.");
        Run s = Run.of(LINE).does("call(0, 5, 1, 10, 9, 0, 0)", "call(0, 5, 1, 10, 9, 1, 7)",
                "call(0, 5, 1, 10, 9, 2, 0)", "call(0, 5, 1, 10, 9, 0, 0)", "step(0, 8, 5)",
                "takeBack(3, 9)");
        s.each("stands(%, 4)", 0, 0, 0, 0).each("stands(%, 5)", 1, 1, 1, 1);
        s.each("stands(%, 7)", 1, 1, 1, 1).each("stands(%, 8)", 1, 0, 0, 1);
        s.each("stands(%, 9)", 1, 0, 0, 0).each("stands(%, 999)", 1, 0, 0, 0);
        s.does("deal(1, 0, 994, 1)", "deal(1, 0, 995, 1)").due("sent(0, 4)", 999).due("sent(1, 4)", 1000);
        s.due("sent(0, 5)", 1).due("sent(1, 5)", 0);
    }

    // ---- DEALS

    static void deals() {
        says(T, "DEALS (24): of a PLACE at a MINUTE with a CALL of another one, of which it KNOWS then "
                + "that it was called (whether it STANDS still or not): so many units.");
        Run x = Run.of(LINE).does("call(0, 5, 1, 10, 99, 1, 5)", "call(1, 0, 1, 10, 9, 0, 0)");
        x.refuses("deal(1, 0, 9, 1)", STATE).refuses("deal(0, 0, 10, 1)", BAD);
        x.due("stands(0, 10)", 0).due("deal(1, 0, 10, 1)", 0);
        x.does("takeBack(1, 0)").due("deal(0, 1, 5, 1)", 1).due("seen(1, 0, 1)", 5);
        for (int i = 2; i < 24; i++) {
            x.due("deal(1, 0, 999, 99)", i);
        }
        x.refuses("deal(1, 0, 999, 1)", FULL).due("count(2)", 24);
        says(T, "It COMES to the CALL's PLACE.");
        Run c = Run.of(LINE + "shut 0 1 20 29;").does("call(0, 5, 1, 10, 99, 0, 0)",
                "deal(1, 0, 19, 1)", "deal(1, 0, 20, 1)", "deal(2, 0, 17, 1)", "deal(2, 0, 999, 1)");
        c.each("sent(%, 4)", 24, 35, 35, 1011);

        says(T, "There DEALS of a CALL are STRUCK by MINUTES at which they COME; of one MINUTE by R: "
                + "sent: by when they were sent; near: by how long they were under way; number: as told; "
                + "then as told:");
        inOneMinute("", 2, 0, 3, 0);
        inOneMinute("first sent;", 2, 0, 3, 0);
        inOneMinute("first near;", 0, 2, 2, 1);
        inOneMinute("first number;", 2, 2, 1, 0);
        says(T, "of the CALL's units that are left as many as it has, if the CALL STANDS in that MINUTE.");
        Run u = Run.of(LINE).does("call(0, 0, 1, 10, 99, 0, 0)", "call(0, 0, 1, 10, 5, 0, 0)",
                "call(0, 0, 1, 10, 1, 0, 0)");
        u.does("deal(1, 0, 5, 99)", "deal(1, 0, 6, 1)", "deal(1, 1, 5, 99)", "deal(1, 2, 6, 1)",
                "deal(1, 2, 5, 1)");
        u.each("sent(%, 5)", 99, 0, 5, 0, 1).each("of(%, 8)", 99, 5, 1);
        u.does("deal(1, 0, 5, 99)").due("sent(0, 5)", 99).due("sent(5, 5)", 0);
        Run s = Run.of(LINE).does("call(0, 0, 1, 10, 9, 1, 20)", "call(0, 0, 1, 10, 9, 2, 0)",
                "call(0, 0, 1, 10, 9, 0, 0)", "step(0, 21, 5)", "takeBack(2, 21)");
        for (int i = 0; i < 3; i++) {
            s.does("deal(1, " + i + ", 15, 1)", "deal(1, " + i + ", 16, 1)");
        }
        s.each("sent(%, 4)", 20, 21, 20, 21, 20, 21).each("sent(%, 5)", 1, 0, 1, 0, 1, 0);
        says(T, "A DEAL of which no unit is STRUCK is VOID.");
        s.due("empty(0)", 0b101010).does("takeBack(2, NONE)").due("empty(0)", 0b1010);
        u.due("empty(0)", 0b101010);
        says(T, "Its PLACE KNOWS of it when news that leaves the CALL's PLACE in that MINUTE COMES back.");
        Run k = Run.of(LINE + "shut 0 1 20 29;").does("call(0, 5, 1, 10, 1, 0, 0)",
                "deal(1, 0, 14, 1)", "deal(1, 0, 15, 1)", "deal(1, 0, 999, 1)", "deal(2, 0, 17, 1)");
        k.each("sent(%, 4)", 19, 20, 1004, 35).each("sent(%, 6)", 24, 35, 1009, 47);
        k.each("sent(%, 5)", 1, 0, 0, 0);
        Run far = Run.of(EdgesOfNews.CHAIN).does("call(0, 0, 1, 1, 1, 0, 0)", "deal(4, 0, 999, 1)");
        far.due("sent(0, 4)", 1396).due("sent(0, 6)", 1792);
    }

    /** Four deals that come in minute 40 for five units, and one that comes a minute earlier. */
    private static void inOneMinute(String rule, long... struck) {
        Run x = Run.of(STAR + rule).does("call(0, 0, 1, 50, 5, 0, 0)");
        x.does("deal(3, 0, 20, 2)", "deal(2, 0, 35, 2)", "deal(1, 0, 30, 3)", "deal(2, 0, 35, 1)");
        x.each("sent(%, 4)", 40, 40, 40, 40).each("sent(%, 5)", struck);
        x.does("keep(0)", "deal(2, 0, 34, 5)").due("sent(4, 4)", 39);
        x.each("sent(%, 5)", 0, 0, 0, 0, 5).does("back(0)", "deal(1, 0, 29, 4)").due("sent(4, 4)", 39);
        x.due("sent(4, 5)", 4).due("of(0, 8)", 5).due("of(0, 9)", 40);
        // alike in all: as told
        Run y = Run.of(STAR + rule).does("call(0, 0, 1, 50, 5, 0, 0)", "deal(2, 0, 35, 4)",
                "deal(2, 0, 35, 3)", "deal(2, 0, 35, 2)");
        y.each("sent(%, 5)", 4, 1, 0);
    }

    // ---- promises 13 to 17

    static void promisesOfCalls() {
        Run x = EdgesOfText.rich();
        says(13, "A CALL of a PLACE: side 0 BUY, 1 SELL; price 1 to 999, units 1 to 99; kind 0, 1, 2");
        x.bounds("call(%, 9, 0, 9, 9, 0, 0)", 0, 3, 2, 3);
        x.bounds("call(0, %, 0, 9, 9, 0, 0)", 0, 3, 999, 3);
        x.bounds("call(0, 9, %, 9, 9, 0, 0)", 0, 3, 1, 3);
        x.bounds("call(0, 9, 0, %, 9, 0, 0)", 1, 3, 999, 3);
        x.bounds("call(0, 9, 0, 9, %, 0, 0)", 1, 3, 99, 3);
        x.bounds("call(0, 9, 0, 9, 9, %, 9)", 0, 3, 2, 3);
        x.copy().does("call(2, 999, 1, 999, 99, 2, 999)").each("of(3, %)", 2, 999, 1, 999, 99, 2, 999);
        x.copy().does("call(0, 0, 0, 1, 1, 1, 0)").each("of(3, %)", 0, 0, 0, 1, 1, 1, 0, 0);
        says(13, "(v: 0: not looked at; TIMED: a MINUTE, no earlier; UNLESS: 0 to 999): its number.");
        for (String v : new String[] {"LOW", "-1", "0", "5", "1000", "HIGH"}) {
            x.copy().due("call(0, 9, 0, 9, 9, 0, " + v + ")", 3).due("of(3, 6)", 0).due("of(3, 7)", 999);
        }
        x.bounds("call(0, 9, 0, 9, 9, 1, %)", 9, 3, 999, 3);
        x.bounds("call(0, 0, 0, 9, 9, 1, %)", 0, 3, 999, 3);
        x.bounds("call(0, 999, 0, 9, 9, 1, %)", 999, 3, 999, 3);
        x.bounds("call(0, 9, 0, 9, 9, 2, %)", 0, 3, 999, 3);
        x.bounds("call(0, 999, 0, 9, 9, 2, %)", 0, 3, 999, 3);
        says(13, "BAD; FULL.");
        Run f = EdgesOfText.full();
        f.refuses("call(0, 0, 0, 1, 1, 0, 0)", FULL).refuses("call(0, 0, 0, 1, 1, 1, 999)", FULL);
        f.refuses("call(3, 0, 0, 1, 1, 0, 0)", BAD).refuses("call(0, 9, 0, 1, 1, 1, 8)", BAD);
        f.refuses("call(0, 9, 0, 1, 1, 2, 1000)", BAD);

        says(14, "A CALL is TAKEN BACK at a MINUTE (from its own on; NONE: not): when it was (NONE).");
        x.bounds("takeBack(0, %)", 5, 50, 999, 50).bounds("takeBack(2, %)", 2, NONE, 999, NONE);
        Run t = x.copy().due("takeBack(0, 5)", 50).due("of(0, 7)", 4).due("takeBack(0, 999)", 5);
        t.due("of(0, 7)", 998).due("takeBack(0, NONE)", 999).due("of(0, 7)", 999);
        t.due("seen(0, 1, 1)", NONE).due("takeBack(0, NONE)", NONE).due("takeBack(0, 7)", NONE);
        says(14, "BAD.");
        x.bounds("takeBack(%, 60)", 0, 50, 2, NONE).bounds("takeBack(%, NONE)", 0, 50, 2, NONE);
        x.refuses("takeBack(1, -1)", BAD).refuses("takeBack(1, -3)", BAD).refuses("takeBack(1, -5)", BAD);

        says(15, "Of a CALL: 0 PLACE, 1 MINUTE, 2 side, 3 price, 4 units, 5 kind, 6 v (PLAIN: 0),");
        x.copy().each("of(0, %)", 0, 5, 1, 100, 4, 0, 0).each("of(1, %)", 1, 0, 0, 99, 6, 2, 15)
                .each("of(2, %)", 2, 2, 0, 108, 3, 1, 60);
        says(15, "7 the last MINUTE in which it STANDS (999 at most; its own less 1: in none),");
        x.copy().each("of(%, 7)", 49, 5, 60);
        Run e = Run.of(LINE).does("call(0, 0, 0, 1, 1, 0, 0)", "call(0, 999, 0, 1, 1, 2, 0)",
                "call(0, 999, 0, 1, 1, 1, 999)", "call(0, 7, 0, 1, 1, 1, 7)");
        e.each("of(%, 7)", 999, 999, 999, 7);
        e.does("takeBack(0, 0)", "takeBack(1, 999)", "takeBack(2, 999)", "takeBack(3, 7)");
        e.each("of(%, 7)", -1, 998, 998, 6).each("stands(%, 0)", 0, 0, 0, 0);
        says(15, "8 units STRUCK in all, 9 the MINUTE at which all were (NONE).");
        x.copy().each("of(%, 8)", 2, 0, 2).each("of(%, 9)", NONE, NONE, NONE);
        Run s = Run.of(LINE).does("call(0, 0, 1, 1, 5, 0, 0)", "deal(1, 0, 10, 4)");
        s.due("of(0, 8)", 4).due("of(0, 9)", NONE).does("deal(1, 0, 30, 1)", "deal(1, 0, 40, 1)");
        s.due("of(0, 8)", 5).due("of(0, 9)", 35).does("deal(1, 0, 20, 9)");
        s.due("of(0, 8)", 5).due("of(0, 9)", 25).does("takeBack(0, 25)");
        s.due("of(0, 8)", 4).due("of(0, 9)", NONE).does("takeBack(0, 0)").due("of(0, 8)", 0);
        Run end = Run.of(LINE).does("call(0, 0, 1, 1, 1, 0, 0)", "deal(1, 0, 995, 1)");
        end.due("of(0, 9)", NONE).does("deal(1, 0, 994, 1)").due("of(0, 9)", 999);
        says(15, "BAD.");
        x.bounds("of(%, 0)", 0, 0, 2, 2).bounds("of(0, %)", 0, 0, 9, NONE);
        x.bounds("of(%, 9)", 0, NONE, 2, NONE);

        says(16, "Whether a CALL STANDS in a MINUTE (1, 0; units do not matter).");
        x.copy().due("stands(0, 4)", 0).due("stands(0, 5)", 1).due("stands(0, 49)", 1)
                .due("stands(0, 50)", 0).due("stands(2, 60)", 1).due("stands(2, 61)", 0);
        Run u = Run.of(LINE).does("call(0, 0, 1, 1, 5, 0, 0)", "deal(1, 0, 10, 5)").due("of(0, 9)", 15);
        u.due("stands(0, 14)", 1).due("stands(0, 15)", 1).due("stands(0, 999)", 1);
        says(16, "BAD.");
        x.bounds("stands(%, 2)", 0, 0, 2, 1).bounds("stands(1, %)", 0, 1, 999, 0);

        says(17, "When a PLACE KNOWS first that a CALL was called (what 0), that it was TAKEN BACK (1); "
                + "NONE: never, it was not.");
        x.copy().each("seen(0, %, 0)", 5, 10, 17).each("seen(0, %, 1)", 50, 55, 62)
                .each("seen(2, %, 0)", 14, 9, 2).each("seen(1, %, 1)", NONE, NONE, NONE);
        Run o = Run.of(LINE + "place 5;").does("call(0, 999, 1, 1, 5, 0, 0)", "takeBack(0, 999)");
        o.each("seen(0, %, 0)", 999, 1004, 1011, NONE).each("seen(0, %, 1)", 999, 1004, 1011, NONE);
        o.does("takeBack(0, NONE)").each("seen(0, %, 1)", NONE, NONE, NONE, NONE);
        Run z = Run.of(LINE).does("call(0, 0, 1, 1, 5, 0, 0)", "takeBack(0, 0)");
        z.each("seen(0, 0, %)", 0, 0).each("seen(0, 1, %)", 5, 5);
        says(17, "BAD.");
        x.bounds("seen(%, 1, 0)", 0, 10, 2, 9).bounds("seen(0, %, 1)", 0, 50, 2, 62);
        x.bounds("seen(0, 1, %)", 0, 10, 1, 55);
    }

    // ---- promises 18 to 21

    static void promisesOfDeals() {
        Run x = EdgesOfText.rich();
        says(18, "A DEAL of a PLACE with a CALL, units 1 to 99: its number.");
        x.bounds("deal(1, 0, 60, %)", 1, 3, 99, 3);
        x.copy().due("deal(1, 0, 60, 99)", 3).due("deal(2, 0, 60, 1)", 4).each("sent(3, %)", 1, 0, 60, 99);
        says(18, "BAD: also with its own CALL;");
        x.refuses("deal(0, 0, 60, 1)", BAD).refuses("deal(1, 1, 60, 1)", BAD);
        x.refuses("deal(2, 2, 1, 1)", BAD);
        x.bounds("deal(%, 1, 60, 1)", 0, 3, 2, 3).bounds("deal(1, %, 60, 1)", 0, 3, 2, 3);
        x.bounds("deal(1, 0, %, 1)", 0, STATE, 999, 3);
        says(18, "STATE: it does not KNOW of the CALL then; FULL.");
        x.refuses("deal(1, 0, 0, 1)", STATE).refuses("deal(1, 0, 9, 1)", STATE);
        x.refuses("deal(2, 0, 16, 1)", STATE).copy().due("deal(1, 0, 10, 1)", 3).due("deal(2, 0, 17, 1)", 4);
        Run.of(EdgesOfText.APART).does("call(0, 0, 1, 1, 1, 0, 0)").refuses("deal(1, 0, 999, 1)", STATE);
        Run.of(LINE).does("call(0, 995, 1, 1, 1, 0, 0)").refuses("deal(1, 0, 999, 1)", STATE);
        Run.of(LINE).does("call(0, 994, 1, 1, 1, 0, 0)").due("deal(1, 0, 999, 1)", 0);
        Run f = EdgesOfText.full().refuses("deal(1, 0, 5, 1)", FULL).refuses("deal(1, 0, 4, 1)", STATE);
        f.refuses("deal(1, 0, 5, 100)", BAD).refuses("deal(1, 12, 5, 1)", BAD);

        says(19, "Of a DEAL: 0 PLACE, 1 CALL, 2 MINUTE, 3 units, 4 when it COMES (NONE: never), 5 units "
                + "STRUCK, 6 when its PLACE KNOWS that (NONE: never).");
        x.copy().each("sent(0, %)", 1, 0, 14, 2, 25, 2, 30).each("sent(1, %)", 0, 1, 12, 5, 25, 0, 30)
                .each("sent(2, %)", 0, 2, 30, 2, 42, 2, 54);
        x.copy().does("deal(2, 0, 999, 99)").each("sent(3, %)", 2, 0, 999, 99, 1011, 0, 1023);
        says(19, "BAD.");
        x.bounds("sent(%, 0)", 0, 1, 2, 0).bounds("sent(0, %)", 0, 1, 6, 30);
        x.bounds("sent(%, 6)", 0, 30, 2, 54);

        promiseOfEmpty(x);
        promiseOfUndo(x);
    }

    private static void promiseOfEmpty(Run x) {
        says(20, "DEALS that are VOID (what 0; bits each),");
        x.copy().due("empty(0)", 2);
        Run none = Run.of(LINE).does("call(0, 0, 1, 10, 5, 0, 0)").each("empty(%)", 0, 0, 0);
        none.does("deal(1, 0, 5, 5)").each("empty(%)", 0, 0, 0);
        Run f = EdgesOfText.full().due("empty(0)", 0);
        for (int c = 0; c < 12; c++) {
            f.does("takeBack(" + c + ", 33)");
        }
        // the last comes at 33
        f.due("empty(0)", 1 << 23).does("takeBack(11, 0)").due("empty(0)", 1 << 23 | 1 << 11);
        for (int c = 0; c < 11; c++) {
            f.does("takeBack(" + c + ", 0)");
        }
        f.each("empty(%)", 0xffffff, 0, 0xffffff);
        says(20, "those of them whose CALL STOOD when they CAME (1),");
        Run s = Run.of(STAR).does("call(0, 0, 1, 50, 5, 1, 40)", "deal(2, 0, 34, 5)",
                "deal(2, 0, 35, 1)", "deal(2, 0, 36, 1)");
        s.due("empty(0)", 6).due("empty(1)", 2);
        s.does("takeBack(0, 40)").due("empty(0)", 6).due("empty(1)", 0);
        s.does("takeBack(0, 39)").due("empty(0)", 7).due("empty(1)", 0);
        Run late = Run.of(LINE).does("call(0, 0, 1, 10, 5, 0, 0)", "deal(1, 0, 5, 5)",
                "deal(1, 0, 994, 1)", "deal(1, 0, 995, 1)");
        late.due("empty(0)", 6).due("empty(1)", 2);
        says(20, "that were sent when their PLACE KNEW that the CALL was TAKEN BACK (2).");
        Run t = Run.of(STAR).does("call(0, 0, 1, 50, 5, 0, 0)", "deal(1, 0, 29, 1)",
                "deal(1, 0, 30, 1)", "deal(2, 0, 24, 1)", "deal(2, 0, 25, 1)", "deal(2, 0, 16, 1)");
        t.due("empty(2)", 0).does("takeBack(0, 20)").due("empty(0)", 31).due("empty(2)", 10);
        t.does("takeBack(0, 21)").due("empty(0)", 31).due("empty(2)", 0);
        t.does("takeBack(0, 22)").due("empty(0)", 15).due("empty(2)", 0);
        t.does("takeBack(0, NONE)").due("empty(0)", 0).due("empty(2)", 0);
        says(20, "BAD.");
        x.bounds("empty(%)", 0, 2, 2, 0);
        Run.fresh().bounds("empty(%)", 0, 0, 2, 0);
    }

    /** A place that owes 10 times so many units, one deal each, and may owe so much. */
    private static Run debtor(int most, int... units) {
        Run x = Run.of(STAR + "most " + most + ";").does("call(0, 0, 1, 10, 99, 0, 0)");
        for (int n : units) {
            x.does("deal(2, 0, 10, " + n + ")");
        }
        return x;
    }

    private static void promiseOfUndo(Run x) {
        says(21, "The fewest DEALS to be undone (STRUCK ones) so that a PLACE OWES no more than most in "
                + "MINUTE 999: how many (what 0),");
        x.copy().each("undo(%, 0)", 0, 0, 0);
        debtor(50, 5).due("undo(2, 0)", 0);
        debtor(49, 5).due("undo(2, 0)", 1);
        debtor(50, 3, 1, 2).due("undo(2, 0)", 1);
        debtor(10, 3, 1, 2).due("undo(2, 0)", 2);
        debtor(9, 3, 1, 2).due("undo(2, 0)", 3);
        debtor(1).due("undo(2, 0)", 0);
        // what is void or another's is none of them; what is sold makes it owe less
        Run v = Run.of(STAR + "most 10;").does("call(0, 0, 1, 10, 3, 0, 0)", "call(0, 0, 0, 10, 9, 0, 0)",
                "deal(2, 0, 20, 1)", "deal(2, 0, 10, 2)", "deal(2, 0, 30, 9)", "deal(1, 1, 10, 9)");
        v.due("owes(2, 0, 999, 0)", 30).each("undo(2, %)", 1, 2).each("undo(1, %)", 0, 0);
        v.each("undo(0, %)", 1, 8);
        // struck in the last minute; in none above
        Run last = debtor(9).does("deal(2, 0, 995, 1)").each("undo(2, %)", 0, 0);
        last.does("deal(2, 0, 994, 1)").each("undo(2, %)", 1, 2);
        Run all = Run.of(STAR + "most 1;").does("call(0, 0, 1, 10, 99, 0, 0)");
        for (int i = 0; i < 24; i++) {
            all.does("deal(2, 0, 10, 1)");
        }
        all.each("undo(2, %)", 24, 0xffffff);
        says(21, "these (1, bits; of several the least).");
        x.copy().each("undo(%, 1)", 0, 0, 0);
        debtor(50, 5).due("undo(2, 1)", 0);
        debtor(49, 5).due("undo(2, 1)", 1);
        debtor(10, 2, 1, 5).due("undo(2, 1)", 5);
        debtor(50, 3, 5).due("undo(2, 1)", 1);
        debtor(49, 3, 5).due("undo(2, 1)", 2);
        debtor(30, 3, 3, 3).due("undo(2, 1)", 3);
        debtor(60, 3, 3, 3).due("undo(2, 1)", 1);
        debtor(30, 1, 2, 3, 4).due("undo(2, 1)", 0b1100);
        debtor(40, 1, 2, 3, 4).due("undo(2, 1)", 0b1010);
        debtor(50, 1, 2, 3, 4).due("undo(2, 1)", 0b0110);
        debtor(60, 1, 2, 3, 4).due("undo(2, 1)", 0b1000);
        says(21, "BAD.");
        x.bounds("undo(%, 0)", 0, 0, 2, 0).bounds("undo(0, %)", 0, 0, 1, 0);
        says(21, "(What is undone is STRUCK for nobody else.)");
        // the units of the first are not the second's then
        Run n = Run.of(STAR + "most 10;").does("call(0, 0, 1, 10, 5, 0, 0)", "deal(2, 0, 10, 5)",
                "deal(2, 0, 11, 5)", "deal(2, 0, 12, 5)");
        n.each("undo(2, %)", 1, 1).each("sent(%, 5)", 5, 0, 0).due("owes(2, 0, 999, 0)", 50);
    }
}
