/** What the document says of a WORTH, of IMAGES and of SHEETS; promises 30 to 40. */
final class EdgesOfSheets {
    private static final int BAD = Run.BAD, STATE = Run.STATE, FULL = Run.FULL, NONE = Run.NONE;
    private static final int T = Sentences.TERMS;
    private static final String LINE = EdgesOfText.LINE;

    private EdgesOfSheets() {
    }

    private static void says(int section, String sentence) {
        Sentences.says(section, sentence);
    }

    // ---- a WORTH

    static void worth() {
        Run x = Run.fresh();
        Run up = Run.of("moves 0 0 4;");
        Run down = Run.of("moves 3 0 0;");
        Run uneven = Run.of("moves 4 3 4;");
        says(T, "A WORTH by chances: after so many minutes (0 to 12) it is k off with a chance.");
        x.each("odds(0, 0, %)", 1, 1).each("odds(1, -1, %)", 1, 4).each("odds(2, 1, %)", 1, 4);
        // 24 over 12 of 2 to the 24th
        x.each("odds(12, 0, %)", 676039, 4194304).each("odds(12, 12, %)", 1, 16777216);
        x.each("odds(12, -12, %)", 1, 16777216);
        up.each("odds(12, 12, %)", 1, 1).each("odds(12, 11, %)", 0, 1).each("odds(12, -12, %)", 0, 1);
        down.each("odds(12, -12, %)", 1, 1).each("odds(12, 12, %)", 0, 1);
        // the greatest numbers that there are: 11 to the 12th
        uneven.each("odds(12, 12, %)", 16777216, 3138428376721L);
        uneven.each("odds(12, -11, %)", 12L * 3 * 4194304, 3138428376721L);
        says(T, "LOSS of a caller whose two prices are w off the worth each, as he knew it: the mean of "
                + "what a comer gains who knows it now: how far it is off beyond w, either way.");
        x.each("loss(2, 0, %)", 3, 4).each("loss(2, 1, %)", 1, 8).each("loss(2, 2, %)", 0, 1);
        up.each("loss(12, 0, %)", 12, 1).each("loss(12, 11, %)", 1, 1).each("loss(12, 12, %)", 0, 1);
        down.each("loss(12, 0, %)", 12, 1).each("loss(12, 11, %)", 1, 1).each("loss(5, 7, %)", 0, 1);
        Run.of("moves 0 1 0;").each("loss(12, 0, %)", 0, 1);
        uneven.each("loss(12, 11, %)", 33554432, 3138428376721L).each("loss(1, 0, %)", 8, 11);

        says(30, "The chance that a WORTH is k (-12 to 12) off after n minutes (0 to 12): 0, 1.");
        x.each("odds(3, 3, %)", 1, 64).each("odds(3, 4, %)", 0, 1).each("odds(0, 12, %)", 0, 1);
        x.each("odds(11, 12, %)", 0, 1).each("odds(0, -1, %)", 0, 1);
        says(30, "BAD.");
        x.bounds("odds(%, 0, 1)", 0, 1, 12, 4194304).bounds("odds(12, %, 1)", -12, 16777216, 12, 16777216);
        x.bounds("odds(12, 12, %)", 0, 1, 1, 16777216).bounds("odds(0, %, 0)", -12, 0, 12, 0);

        says(31, "LOSS of a caller whose news is n minutes (0 to 12) old and whose prices are w (0 to 12) "
                + "off: 0, 1.");
        x.each("loss(12, 0, %)", 2028117, 1048576).each("loss(12, 11, %)", 1, 8388608);
        x.each("loss(12, 12, %)", 0, 1).each("loss(0, 0, %)", 0, 1).each("loss(0, 12, %)", 0, 1);
        says(31, "BAD.");
        x.bounds("loss(%, 0, 0)", 0, 0, 12, 2028117).bounds("loss(12, %, 1)", 0, 1048576, 12, 1);
        x.bounds("loss(12, 0, %)", 0, 2028117, 1, 1048576);

        says(32, "The least w (0 to 12) with which LOSS is no more than a by b (0 to 999, 1 to 999) at n "
                + "minutes.");
        x.due("wide(2, 1, 7)", 1).due("wide(2, 1, 8)", 1).due("wide(2, 1, 9)", 2);
        x.due("wide(2, 3, 4)", 0).due("wide(2, 2, 3)", 1).due("wide(2, 999, 999)", 0);
        x.due("wide(2, 749, 999)", 1).due("wide(2, 750, 999)", 0).due("wide(0, 0, 1)", 0);
        x.due("wide(12, 0, 1)", 12).due("wide(12, 1, 999)", 8).due("wide(12, 999, 1)", 0);
        up.due("wide(12, 0, 999)", 12).due("wide(12, 1, 2)", 12).due("wide(12, 1, 1)", 11);
        up.due("wide(12, 12, 1)", 0).due("wide(12, 11, 1)", 1).due("wide(12, 23, 2)", 1);
        uneven.due("wide(12, 0, 999)", 12).due("wide(12, 999, 1)", 0);
        says(32, "BAD; NONE.");
        // at 12 off nothing is lost, so that there always is one
        x.bounds("wide(%, 0, 1)", 0, 0, 12, 12).bounds("wide(12, %, 1)", 0, 12, 999, 0);
        x.bounds("wide(12, 1, %)", 1, 2, 999, 8).bounds("wide(12, 0, %)", 1, 12, 999, 12);

        says(33, "What it is worth to stand where news is m minutes old instead of n (m no more than n): "
                + "LOSS at n less LOSS at m, w off: 0, 1.");
        x.each("near(2, 1, 0, %)", 1, 4).each("near(2, 0, 1, %)", 1, 8).each("near(2, 2, 0, %)", 0, 1);
        x.each("near(12, 12, 0, %)", 0, 1).each("near(0, 0, 12, %)", 0, 1);
        x.each("near(12, 0, 0, %)", 2028117, 1048576).each("near(12, 11, 11, %)", 1, 8388608);
        up.each("near(12, 3, 0, %)", 9, 1).each("near(12, 3, 5, %)", 7, 1);
        uneven.each("near(12, 11, 11, %)", 33554432, 3138428376721L);
        says(33, "BAD.");
        x.bounds("near(%, 0, 0, 0)", 0, 0, 12, 2028117).bounds("near(12, %, 0, 0)", 0, 2028117, 12, 0);
        x.bounds("near(5, %, 12, 0)", 0, 0, 5, 0).bounds("near(%, 5, 12, 0)", 5, 0, 12, 0);
        x.bounds("near(12, 0, %, 0)", 0, 2028117, 12, 0).bounds("near(12, 0, 0, %)", 0, 2028117, 1, 1048576);
    }

    // ---- IMAGES

    static void images() {
        Run x = EdgesOfText.rich();
        says(34, "IMAGE k (0, 1) is all STEPS, CALLS, DEALS: whether there was one (1, 0).");
        Run k = Run.of(LINE).due("keep(0)", 0).due("keep(0)", 1).due("keep(1)", 0).due("keep(1)", 1);
        k.tell("x");
        k.due("keep(0)", 1).tell(LINE);
        k.due("keep(0)", 0).due("count(3)", 1).due("keep(1)", 0).due("count(3)", 2);
        Run y = x.copy().due("back(0)", 0).each("count(%)", 2, 0, 0).due("price(0, 30)", 120);
        y.due("price(0, 5)", 100).due("back(1)", 3).each("count(%)", 2, 3, 1).due("of(0, 7)", 49);
        // kept once more: what is now
        y.due("keep(0)", 1).does("step(0, 1, 1)").due("back(0)", 3).each("count(%)", 2, 3, 1);
        Run f = EdgesOfText.full().does("keep(0)", "end(0)").due("back(0)", 12);
        f.each("count(%)", 24, 12, 24, 1, 0, 3).due("sent(23, 2)", 28).due("of(11, 3)", 12);
        f.due("price(2, 23)", 24).due("step(0, 0, 1)", FULL).due("deal(1, 0, 5, 1)", FULL);
        says(34, "BAD.");
        x.bounds("keep(%)", 0, 1, 1, 1);

        says(35, "STEPS, CALLS, DEALS are as IMAGE k: how many CALLS.");
        Run b = Run.of(LINE).does("keep(1)", "step(0, 5, 7)", "call(0, 0, 1, 9, 9, 0, 0)",
                "deal(1, 0, 10, 3)", "takeBack(0, 50)", "keep(0)", "takeBack(0, 12)", "step(0, 5, 8)",
                "call(1, 0, 1, 9, 9, 0, 0)", "deal(1, 0, 11, 3)");
        b.due("back(0)", 1).each("count(%)", 1, 1, 1).due("price(0, 5)", 7).due("of(0, 7)", 49);
        b.due("sent(0, 5)", 3).due("of(1, 0)", BAD).due("sent(1, 0)", BAD);
        // neither what is done behind it nor the other image changes it
        b.does("takeBack(0, NONE)", "step(0, 5, 9)").due("back(1)", 0).each("count(%)", 0, 0, 0);
        b.due("price(0, 5)", 100).due("of(0, 0)", BAD).due("back(0)", 1).due("of(0, 7)", 49);
        b.due("price(0, 5)", 7).due("back(0)", 1);
        // what follows of them is as of the image, whatever was asked ahead of it
        Run many = Run.of(LINE + "most 10;").does("call(0, 0, 1, 9, 9, 0, 0)", "deal(1, 0, 10, 2)",
                "keep(0)");
        many.does("deal(1, 0, 9, 8)", "deal(1, 0, 11, 9)", "call(2, 0, 0, 20, 9, 0, 0)", "step(0, 1, 3)");
        many.each("sent(%, 5)", 1, 8, 0).each("undo(1, %)", 1, 2).each("gain(1, 9, false, %)", 99, 9);
        many.due("owes(1, 0, 999, 0)", 81).due("over(0)", 4).due("empty(0)", 4).due("of(0, 9)", 15);
        many.due("back(0)", 1).due("sent(0, 5)", 2).each("undo(1, %)", 1, 1);
        many.each("gain(1, 9, false, %)", 0, 0).due("owes(1, 0, 999, 0)", 18).due("over(0)", 0);
        many.due("empty(0)", 0).due("of(0, 8)", 2).due("of(0, 9)", NONE).each("peak(1, %)", 15, 18);
        // all else stays: SHEETS, THE TAPE, both FAULTS, the IMAGES
        Run s = x.copy().due("back(0)", 0).due("torn()", 2).due("fault()", 2);
        s.each("count(%)", 2, 0, 0, 2, 16, 7).due("read(0, 1, 0, 2)", 2).due("back(1)", 3);
        says(35, "BAD; STATE: there is none; a system was taken since.");
        x.bounds("back(%)", 0, 0, 1, 3);
        Run n = Run.of(LINE).refuses("back(0)", STATE).refuses("back(1)", STATE).does("keep(1)");
        n.refuses("back(0)", STATE).due("back(1)", 0).tell("place");
        n.due("back(1)", 0).tell("place 5;");
        n.refuses("back(1)", STATE).refuses("back(0)", STATE).refuses("back(2)", BAD);
        Run.fresh().bounds("back(%)", 0, STATE, 1, STATE);
    }

    // ---- SHEETS

    static void sheets() {
        says(T, "SHEETS 0 to 3 are rows of BYTES (lane 0), SHORTS (1), INTS (2), all with a sign, with 0 "
                + "to 40 CELLS, or nothing (at first).");
        for (int k = 0; k < 4; k++) {
            for (int lane = 0; lane < 3; lane++) {
                Run x = Run.of(LINE).due("lay(" + k + ", 0, 1)", -11);
                x.due("sheet(" + k + ", " + lane + ", 0)", 1).due("lay(" + k + ", 0, 1)", -12);
                x.due("sheet(" + k + ", " + lane + ", 40)", 1).due("lay(" + k + ", 39, 1)", 1);
                x.due("lay(" + k + ", 40, 1)", -12).lays(k, 1, 2, 3);
                for (int as = 0; as < 3; as++) {
                    x.due("read(" + k + ", " + as + ", 0, 1)", as == lane ? 1 : 0);
                    x.due("torn()", as == lane ? 0 : 3);
                }
                x.due("price(1, 2)", 3).due("count(5)", k == 0 ? 40 : NONE);
            }
        }
        // with a sign: 128 is below 0 in a row of BYTES, 32768 in one of SHORTS
        price(0, 127, 127).due("count(0)", 1);
        price(0, 128, 90).due("read(0, 0, 0, 1)", -20);
        price(0, 255, 90);
        price(0, -1, 90);
        price(1, 128, 128);
        price(1, 255, 255);
        price(1, 32768 + 5, 90);
        price(1, 65535, 90);
        price(2, 128, 128);
        price(2, 999, 999);
        price(2, -1, 90);

        says(T, "A FAULT is what the machine finds: 1 NULL (nothing), 2 INDEX, 3 CAST (another lane), 4 "
                + "SIZE (below 0).");
        Run f = Run.of(LINE).due("lay(0, 0, 0)", -11).due("read(0, 0, 0, 1)", 0).due("torn()", 1);
        f.due("sheet(0, 0, -1)", -14).due("lay(0, 0, 0)", -11).does("sheet(0, 0, 3)");
        f.due("lay(0, 3, 0)", -12).due("read(0, 0, 1, 1)", 0).due("torn()", 2);
        f.due("read(0, 1, 0, 1)", 0).due("torn()", 3).due("read(0, 2, 0, 1)", 0).due("torn()", 3);

        promisesOfCells();
        promiseOfRead();
        promisesBehind();
    }

    /** A step of place 1 whose price is laid in a row of a lane: the price that place 1 has then. */
    private static Run price(int lane, int v, int due) {
        Run x = Run.of(LINE).does("sheet(0, " + lane + ", 3)").lays(0, 1, 2, v);
        x.ask("read(0, " + lane + ", 0, 1)");
        return x.due("price(1, 2)", due);
    }

    private static void promisesOfCells() {
        Run x = EdgesOfText.rich();
        says(36, "A SHEET is a new row of CELLS 0: 1.");
        Run n = Run.of(LINE).due("sheet(0, 2, 3)", 1).lays(0, 1, 2, 3).due("read(0, 2, 0, 1)", 1);
        n.due("sheet(0, 2, 6)", 1).due("read(0, 2, 0, 1)", -20).does("lay(0, 2, 5)");
        // PLACE 0, MINUTE 0 are what is not laid
        n.due("read(0, 2, 0, 1)", 1).due("price(0, 0)", 5).due("sheet(0, 1, 40)", 1).due("count(5)", 40);
        n.due("read(0, 2, 0, 1)", 0).due("torn()", 3).due("sheet(0, 2, 2)", 1).due("lay(0, 2, 0)", -12);
        n.due("count(5)", 2).due("sheet(0, 0, 0)", 1).due("count(5)", 0).due("lay(0, 0, 0)", -12);
        for (int k = 0; k < 4; k++) {
            n.due("sheet(" + k + ", 0, 1)", 1).due("lay(" + k + ", 0, 0)", 1);
        }
        says(36, "BAD: also n above 40; -14 (SIZE): n below 0.");
        x.bounds("sheet(%, 0, 5)", 0, 1, 3, 1).bounds("sheet(0, %, 5)", 0, 1, 2, 1);
        x.copy().due("sheet(0, 0, 0)", 1).due("sheet(0, 0, 40)", 1).due("count(5)", 40);
        x.refuses("sheet(0, 0, 41)", BAD).refuses("sheet(0, 0, HIGH)", BAD);
        x.refuses("sheet(0, 0, -1)", -14).refuses("sheet(0, 0, LOW)", -14).refuses("sheet(3, 2, -1)", -14);
        x.refuses("sheet(-1, 0, -1)", BAD).refuses("sheet(4, 0, -1)", BAD);
        x.refuses("sheet(0, -1, -1)", BAD).refuses("sheet(0, 3, -1)", BAD).refuses("sheet(0, 3, 41)", BAD);

        says(37, "CELL i of a SHEET becomes v (its lowest bits): 1.");
        price(0, 256 + 7, 7);
        price(0, 0x12345600 + 7, 7);
        price(0, -256 + 7, 7);
        price(0, 256, 90);
        price(1, 65536 + 300, 300);
        price(1, -65536 + 300, 300);
        price(1, 65536, 90);
        price(2, 65536 + 300, 90);
        price(2, 256 + 7, 263);
        price(2, Integer.MIN_VALUE + 7, 90);
        Run l = Run.of(LINE).does("sheet(0, 2, 3)").due("lay(0, 0, LOW)", 1).due("lay(0, 0, HIGH)", 1);
        l.due("lay(0, 0, 1)", 1).due("lay(0, 1, 2)", 1).due("lay(0, 2, 3)", 1).due("lay(0, 2, 4)", 1);
        l.due("read(0, 2, 0, 1)", 1).due("price(1, 2)", 4);
        says(37, "BAD: k; -10 less the FAULT: NULL, INDEX.");
        x.copy().due("lay(0, 0, 1)", 1).due("lay(0, 6, 1)", 1).due("lay(1, 0, 1)", 1).due("lay(1, 2, 1)", 1);
        x.bounds("lay(%, 0, 1)", 0, 1, 3, -11).bounds("lay(0, %, 1)", 0, 1, 6, 1, -12);
        x.bounds("lay(1, %, 1)", 0, 1, 2, 1, -12);
        x.refuses("lay(2, 0, 1)", -12).refuses("lay(2, -1, 1)", -12).refuses("lay(2, HIGH, 1)", -12);
        x.refuses("lay(3, 0, 1)", -11).refuses("lay(3, -1, 1)", -11).refuses("lay(3, 40, 1)", -11);
        x.refuses("lay(-1, -1, 1)", BAD).refuses("lay(4, -1, 1)", BAD);
    }

    /** Thirteen steps of place 1 in minutes 100 on, prices 1 on, and one cell more. */
    private static Run thirteen(int more) {
        Run x = Run.of(LINE);
        for (int i = 0; i < more; i++) {
            x.does("step(0, 0, 5)");
        }
        x.does("sheet(0, 2, 40)", "lay(0, 39, 77)");
        for (int i = 0; i < 13; i++) {
            x.does("lay(0, " + 3 * i + ", 1)", "lay(0, " + (3 * i + 1) + ", " + (100 + i) + ")",
                    "lay(0, " + (3 * i + 2) + ", " + (1 + i) + ")");
        }
        return x;
    }

    private static void promiseOfRead() {
        Run x = EdgesOfText.rich();
        says(38, "n (0 to 13) STEPS (PLACE, MINUTE, PRICE) are read of a SHEET taken as of a lane, three "
                + "CELLS each from CELL f on: how many came.");
        Run all = thirteen(0);
        all.copy().due("read(0, 2, 0, 13)", 13).due("torn()", 0).due("count(0)", 13)
                .due("price(1, 99)", 90).due("price(1, 100)", 1).due("price(1, 112)", 13);
        all.copy().due("read(0, 2, 36, 1)", 1).due("price(1, 111)", 90).due("price(1, 112)", 13);
        all.copy().due("read(0, 2, 3, 2)", 2).due("price(1, 100)", 90).due("price(1, 101)", 2)
                .due("price(1, 999)", 3).due("count(0)", 2);
        // from cell 1 on all 39 are whole, but they are no steps: place 100
        all.refuses("read(0, 2, 1, 13)", -20);
        all.copy().does("lay(0, 37, 2)", "lay(0, 38, 3)").due("read(0, 2, 37, 1)", 1).due("torn()", 0)
                .due("price(2, 3)", 77);
        says(38, "What the machine refuses: those that were whole ahead come (its FAULT is asked by "
                + "torn(); of n 0: 0, no FAULT, whatever the SHEET is).");
        all.copy().due("read(0, 2, 3, 13)", 12).due("torn()", 2).due("count(0)", 12);
        all.copy().due("read(0, 2, 36, 2)", 1).due("torn()", 2).due("price(1, 112)", 13);
        all.copy().due("read(0, 2, 36, 13)", 1).due("torn()", 2);
        for (String f : new String[] {"38", "39", "40", "41", "HIGH", "-1", "-2", "-3", "LOW"}) {
            all.copy().due("read(0, 2, " + f + ", 1)", 0).due("torn()", 2).due("count(0)", 0);
            all.copy().due("read(0, 2, " + f + ", 13)", 0).due("torn()", 2).due("count(0)", 0);
        }
        all.copy().due("read(0, 2, 2147483645, 13)", 0).due("torn()", 2);
        all.copy().due("read(0, 1, 0, 13)", 0).due("torn()", 3).due("count(0)", 0);
        all.copy().due("read(0, 0, -1, 1)", 0).due("torn()", 3);
        all.copy().due("read(3, 2, -1, 1)", 0).due("torn()", 1).due("count(0)", 0);
        // a sheet with 0 cells
        x.copy().due("read(2, 2, 0, 1)", 0).due("torn()", 2).due("read(2, 1, 0, 1)", 0).due("torn()", 3);
        x.copy().due("read(0, 1, 0, 2)", 2).due("torn()", 0).due("read(0, 1, 0, 3)", 2).due("torn()", 2)
                .due("count(0)", 8);
        for (int k = 0; k < 4; k++) {
            for (int lane = 0; lane < 3; lane++) {
                String as = "read(" + k + ", " + lane + ", ";
                x.copy().due(as + "0, 0)", 0).due("torn()", 0).due(as + "-1, 0)", 0).due("torn()", 0)
                        .due(as + "HIGH, 0)", 0).due("torn()", 0).due("count(0)", 4);
            }
        }
        EdgesOfText.full().due("read(0, 1, 0, 0)", 0).due("read(0, 2, 0, 1)", 0).due("torn()", 3)
                .due("read(0, 1, 1, 1)", 0).due("torn()", 2);
        says(38, "BAD: k, lane, n;");
        x.bounds("read(%, 1, 0, 1)", 0, 1, 3, 0).bounds("read(0, %, 0, 1)", 0, 0, 2, 0);
        x.bounds("read(0, 1, 0, %)", 0, 0, 13, 2);
        x.refuses("read(4, 1, 0, 0)", BAD).refuses("read(-1, 1, 0, 0)", BAD);
        x.refuses("read(0, 3, 0, 0)", BAD).refuses("read(0, -1, 0, 0)", BAD);
        x.refuses("read(3, 0, -1, 14)", BAD).refuses("read(3, 0, -1, -1)", BAD);
        whatStepRefuses();
    }

    private static void whatStepRefuses() {
        says(38, "-20 less i (0 on): STEP i, whole, is refused by step() as BAD;");
        Run all = thirteen(0);
        int[][] wrong = {{0, 3}, {0, -1}, {1, 1000}, {1, -1}, {2, 0}, {2, 1000}};
        for (int[] w : wrong) {
            all.copy().does("lay(0, " + w[0] + ", " + w[1] + ")").refuses("read(0, 2, 0, 1)", -20)
                    .refuses("read(0, 2, 0, 13)", -20);
            Run last = all.copy().does("lay(0, " + (36 + w[0]) + ", " + w[1] + ")");
            last.refuses("read(0, 2, 0, 13)", -32).refuses("read(0, 2, 36, 1)", -20);
            last.refuses("read(0, 2, 33, 2)", -21).due("read(0, 2, 0, 12)", 12);
        }
        // the last numbers that step() takes
        all.copy().lays(0, 0, 0, 1, 2, 999, 999).due("read(0, 2, 0, 2)", 2).due("price(0, 0)", 1)
                .due("price(2, 999)", 999).due("price(2, 998)", 110);
        // one that is not whole is not looked at
        all.copy().does("lay(0, 39, 9)").due("read(0, 2, 36, 2)", 1);
        Run.fresh().does("sheet(0, 0, 3)").refuses("read(0, 0, 0, 1)", -20);
        says(38, "FULL: there is no room for it: then none came; the first met.");
        thirteen(11).due("read(0, 2, 0, 13)", 13).due("count(0)", 24).due("price(1, 112)", 13);
        thirteen(12).refuses("read(0, 2, 0, 13)", FULL).due("read(0, 2, 0, 12)", 12);
        thirteen(24).refuses("read(0, 2, 0, 1)", FULL).refuses("read(0, 2, 0, 13)", FULL);
        // in one step BAD is ahead of FULL; of two steps the first
        Run f = thirteen(22);
        f.copy().does("lay(0, 8, 0)").refuses("read(0, 2, 0, 3)", -22);
        f.copy().does("lay(0, 11, 0)").refuses("read(0, 2, 0, 4)", FULL);
        f.copy().does("lay(0, 5, 0)").refuses("read(0, 2, 0, 13)", -21);
        // ahead of what the machine finds behind it, or behind it
        f.copy().refuses("read(0, 2, 30, 13)", FULL).due("read(0, 2, 33, 13)", 2).due("torn()", 2);
        f.copy().does("lay(0, 38, 0)").refuses("read(0, 2, 36, 13)", -20);
    }

    private static void promisesBehind() {
        says(39, "The FAULT of the latest read() that answered 0 or more; 0 (one that is refused leaves "
                + "it).");
        Run t = Run.of(LINE).due("torn()", 0).due("read(0, 0, 0, 1)", 0).due("torn()", 1);
        t.due("read(0, 0, 0, 14)", BAD).due("torn()", 1).due("read(0, 0, 0, 0)", 0).due("torn()", 0);
        t.does("sheet(0, 0, 5)").due("read(0, 1, 0, 1)", 0).due("torn()", 3);
        t.due("read(0, 0, 0, 1)", -20).due("torn()", 3).due("read(0, 0, 3, 1)", 0).due("torn()", 2);
        t.due("sheet(0, 0, -1)", -14).due("lay(0, 5, 0)", -12).due("lay(1, 0, 0)", -11).due("torn()", 2);
        t.lays(0, 1, 2, 3).due("read(0, 0, 0, 1)", 1).due("torn()", 0);
        t.due("read(0, 0, 0, 2)", 1).due("torn()", 2).tell(LINE);
        t.due("torn()", 2);
        Run f = EdgesOfText.full().due("read(0, 2, 0, 1)", 0).due("torn()", 3);
        f.due("read(0, 1, 0, 1)", FULL).due("torn()", 3);

        says(40, "How many: 0 STEPS, 1 CALLS, 2 DEALS, 3 IMAGES (that can be gone back to), 4 bytes on "
                + "THE TAPE, 5 CELLS of SHEET 0 (NONE: nothing).");
        Run.fresh().each("count(%)", 0, 0, 0, 0, 0, NONE);
        EdgesOfText.rich().each("count(%)", 4, 3, 3, 2, 16, 7);
        EdgesOfText.full().each("count(%)", 24, 12, 24, 0, 320, 3);
        Run c = Run.of(LINE).does("keep(1)").due("count(3)", 1).does("keep(1)").due("count(3)", 1);
        c.does("keep(0)").due("count(3)", 2).does("back(1)").due("count(3)", 2);
        c.does("feed(0)").due("count(4)", 8).does("end(3)").due("count(4)", 3);
        c.does("sheet(1, 0, 9)").due("count(5)", NONE).does("sheet(0, 0, 0)").due("count(5)", 0);
        c.does("sheet(0, 2, 40)").due("count(5)", 40).due("sheet(0, 2, 41)", BAD).due("count(5)", 40);
        c.tell("");
        c.each("count(%)", 0, 0, 0, 0, 0, 40);
        says(40, "BAD.");
        EdgesOfText.rich().bounds("count(%)", 0, 4, 5, 7);
        Run.fresh().bounds("count(%)", 0, 0, 5, NONE);
    }
}
