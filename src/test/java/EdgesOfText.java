/** What the document says of answers, of THE TAPE and of the system that it tells; promises 1 to 7. */
final class EdgesOfText {
    private static final int BAD = Run.BAD, STATE = Run.STATE, FULL = Run.FULL, NONE = Run.NONE;
    private static final int T = Sentences.TERMS;

    /** 0 -5- 1 -7- 2. */
    static final String LINE = "place 100;place 90;place 110;way 0 1 5;way 1 2 7;";
    /** 0 in the middle: 1 is 10, 2 is 5, 3 is 20 minutes off. */
    static final String STAR =
            "place 9;place 9;place 9;place 9;way 0 1 10;way 0 2 5;way 0 3 20;";
    /** Two places that never hear of each other. */
    static final String APART = "place 10;place 20;";
    private static final String TWO = "place 1;place 2;";
    private static final String BLANKS = " ".repeat(320);

    private EdgesOfText() {
    }

    private static void says(int section, String sentence) {
        Sentences.says(section, sentence);
    }

    /** One of all that there can be: what is refused must leave every part of it. */
    static Run rich() {
        Run x = Run.of(LINE + "shut 0 1 10 19;moves 3 0 4;first near;most 300;");
        x.does("sheet(0, 1, 7)").lays(0, 0, 5, 50, 1, 6, 60, 2);
        x.does("sheet(1, 0, 3)").lays(1, 1, 7, 70);
        x.does("sheet(2, 2, 0)");
        x.does("step(0, 30, 120)", "step(1, 40, 95)", "keep(0)");
        x.does("call(0, 5, 1, 100, 4, 0, 0)", "call(1, 0, 0, 99, 6, 2, 15)",
                "call(2, 2, 0, 108, 3, 1, 60)", "takeBack(0, 50)");
        x.does("deal(1, 0, 14, 2)", "keep(1)", "deal(0, 1, 12, 5)", "deal(0, 2, 30, 2)");
        x.does("read(0, 1, 0, 3)");
        x.tell("x");
        return x.feeds("place 5;place 66");
    }

    /** No room for one more STEP, CALL, DEAL, byte. 1 sells to 0 at 1, 3 .. 11, buys at 2, 4 .. 12. */
    static Run full() {
        Run x = Run.of(LINE);
        x.does("sheet(0, 1, 3)").lays(0, 0, 5, 50);
        for (int i = 0; i < 24; i++) {
            x.does("step(" + i % 3 + ", " + i + ", " + (i + 1) + ")");
        }
        for (int i = 0; i < 12; i++) {
            x.does("call(0, 0, " + i % 2 + ", " + (i + 1) + ", 9, 0, 0)");
        }
        for (int i = 0; i < 24; i++) {
            x.does("deal(1, " + i % 12 + ", " + (5 + i) + ", 1)");
        }
        for (int i = 0; i < 40; i++) {
            x.does(Run.feed("        "));
        }
        return x;
    }

    // ---- a text and its FAULT

    /** A text that is refused: all that was told stays, but for THE TAPE. */
    private static void broken(String text, int fault, int place) {
        Run x = Run.of("place 7;most 8;").does("step(0, 3, 4)", "keep(0)");
        x.writes(text).due("system()", -10 - place).due("fault()", fault);
        x.due("count(4)", 0).due("told(0)", 1).due("told(7)", 8).due("price(0, 0)", 7);
        x.due("price(0, 3)", 4).due("count(3)", 1);
    }

    private static Run taken(String text, int lines) {
        return Run.of("place 7;most 8;").writes(text).due("system()", lines).due("fault()", 0);
    }

    /** A number of a line, % in the text: its bounds, and the place at which FAULT 3 is told. */
    private static void within(String text, int low, int high) {
        int lines = text.length() - text.replace(";", "").length();
        taken(text.replace("%", low + ""), lines);
        taken(text.replace("%", high + ""), lines);
        if (low > 0) {
            broken(text.replace("%", low - 1 + ""), 3, text.indexOf('%'));
        }
        if (high < 999) {
            broken(text.replace("%", high + 1 + ""), 3, text.indexOf('%'));
            broken(text.replace("%", "999"), 3, text.indexOf('%'));
        }
        broken(text.replace("%", high + 1000 + ""), 1, text.indexOf('%'));
        broken(text.replace("%", "-" + low), 1, text.indexOf('%'));
    }

    /** A NAME of which one letter is another one, is missing, is there once more. */
    private static void nearly(String ahead, String name, String behind) {
        for (int i = 0; i < name.length(); i++) {
            String from = ahead + name.substring(0, i);
            char other = name.charAt(i) == 'z' ? 'a' : (char) (name.charAt(i) + 1);
            broken(from + other + name.substring(i + 1) + behind, 2, ahead.length());
            broken(from + name.substring(i + 1) + behind, 2, ahead.length());
            broken(from + name.substring(i, i + 1) + name.substring(i) + behind, 2, ahead.length());
        }
    }

    private static String times(int n, String line) {
        return line.repeat(n);
    }

    private static String allWays() {
        StringBuilder s = new StringBuilder(times(5, "place1;"));
        for (int a = 0; a < 5; a++) {
            for (int b = 0; b < a; b++) {
                s.append("way").append(a).append(' ').append(b).append(" 1;");
            }
        }
        return s.toString();
    }

    // ---- answers

    static void answers() {
        says(T, "An object is used for at most 512 calls after it has been made; "
                + "what later calls answer is free.");
        Run last = Run.of("place 7;");
        while (last.made() < Run.MOST_CALLS - 2) {
            last.does("price(0, 999)");
        }
        last.due("step(0, 999, 8)", 1).due("price(0, 999)", 8);
        Run busy = full();
        while (busy.made() < Run.MOST_CALLS - 1) {
            busy.due("deal(1, 0, 5, 1)", FULL);
        }
        busy.due("sent(23, 5)", 1);

        says(T, "Answers: BAD -1 (a number is not as told, there is no such PLACE, CALL, DEAL, IMAGE, "
                + "SHEET)");
        Sentences.due("BAD", LatePrices.BAD, -1);
        Run none = Run.fresh();
        none.refuses("price(0, 0)", -1).refuses("of(0, 0)", -1).refuses("sent(0, 0)", -1);
        none.refuses("keep(2)", -1).refuses("sheet(4, 0, 0)", -1).refuses("told(8)", -1);
        rich().refuses("price(3, 0)", -1).refuses("of(3, 0)", -1).refuses("sent(3, 0)", -1);

        says(T, "STATE -2 (as told), FULL -3, NONE -4 (there is none)");
        Sentences.due("STATE", LatePrices.STATE, -2);
        Sentences.due("FULL", LatePrices.FULL, -3);
        Sentences.due("NONE", LatePrices.NONE, -4);
        rich().refuses("deal(1, 0, 9, 1)", -2);
        Run.fresh().refuses("back(0)", -2);
        full().refuses("step(0, 0, 1)", -3);
        Run.of(APART).due("way(0, 1)", -4);

        theFirstThatFits();
        whatIsRefused();

        says(T, "What is numbered has its numbers from 0 on, as it comes, where nothing else is told.");
        Run y = Run.of("place 11;place 12;place 13;way 0 1 1;");
        y.each("price(%, 0)", 11, 12, 13).due("price(3, 0)", BAD);
        y.due("call(1, 0, 0, 5, 1, 0, 0)", 0).due("call(0, 0, 0, 6, 1, 0, 0)", 1);
        y.each("of(%, 3)", 5, 6);
        y.due("deal(0, 0, 1, 3)", 0).due("deal(1, 1, 1, 4)", 1).each("sent(%, 3)", 3, 4);
        // behind a refusal and behind going back the next number is the next one that is free
        y.due("call(0, 0, 0, 0, 1, 0, 0)", BAD).due("deal(1, 1, 0, 4)", STATE).does("keep(0)");
        y.due("call(0, 0, 0, 7, 1, 0, 0)", 2).due("deal(1, 1, 1, 5)", 2).does("back(0)");
        y.due("call(0, 0, 0, 8, 1, 0, 0)", 2).due("deal(1, 1, 1, 6)", 2);
        y.due("of(2, 3)", 8).due("sent(2, 3)", 6);

        says(T, "Fractions are in lowest terms, told as two numbers, first the numerator, then the "
                + "denominator, which is above 0 (0 is 0 by 1).");
        Run z = Run.of("moves 2 4 2;");
        // of 8 each: 2, 4, 2
        z.each("odds(1, 0, %)", 1, 2).each("odds(1, 1, %)", 1, 4).each("loss(1, 0, %)", 1, 2);
        z.each("near(1, 0, 0, %)", 1, 2);
        z.each("odds(1, 2, %)", 0, 1).each("loss(1, 1, %)", 0, 1).each("near(1, 1, 0, %)", 0, 1);
        z.each("odds(0, 0, %)", 1, 1).each("loss(0, 0, %)", 0, 1);
    }

    private static void theFirstThatFits() {
        says(T, ", the first that fits;");
        // BAD ahead of STATE, STATE ahead of FULL, BAD ahead of FULL
        Run x = Run.of(LINE).does("call(0, 5, 1, 100, 4, 0, 0)");
        x.due("deal(1, 0, 9, 1)", STATE).due("deal(1, 0, 9, 0)", BAD).due("deal(0, 0, 4, 1)", BAD);
        x.due("deal(1, 0, 9, 100)", BAD).due("back(2)", BAD).due("back(1)", STATE);
        Run f = full();
        f.due("deal(1, 0, 4, 1)", STATE).due("deal(1, 0, 5, 1)", FULL).due("deal(1, 0, 5, 0)", BAD);
        f.due("deal(0, 0, 5, 1)", BAD).due("deal(1, 0, 4, 0)", BAD);
        f.due("step(0, 0, 0)", BAD).due("call(0, 0, 1, 1, 0, 0, 0)", BAD);
        f.due("call(0, 5, 1, 1, 1, 1, 4)", BAD);
        f.due("read(0, 1, 0, 14)", BAD).due("read(0, 1, 0, 1)", FULL);
        f.does("lay(0, 2, 0)").due("read(0, 1, 0, 1)", -20);
        // BAD ahead of NONE
        Run n = Run.fresh();
        n.due("dearest(0, 1000, 0)", BAD).due("dearest(0, 0, 4)", BAD).due("dearest(0, 0, 2)", BAD);
        n.due("book(0, 2)", BAD).due("book(1000, 0)", BAD).due("dearest(0, 0, 0)", NONE);
        Run a = Run.of(APART).does("call(0, 5, 1, 1, 1, 0, 0)");
        a.due("comes(0, 1, 1000)", BAD).due("knows(0, 1, 0, 3)", BAD).due("waits(0, -1)", BAD);
        a.due("enough(0, 5, 4)", BAD).due("way(0, 2)", BAD).due("book(0, 2)", BAD);
        a.due("chance(0, 1000, true)", BAD).due("seen(0, 1, 2)", BAD);
        a.due("seen(0, 2, 1)", BAD).due("takeBack(0, 4)", BAD);
        // BAD ahead of the machine's FAULTS, NULL and CAST ahead of INDEX
        a.due("sheet(4, 0, -1)", BAD).due("sheet(0, 3, -1)", BAD).due("sheet(0, 0, -1)", -14);
        a.due("lay(4, -1, 0)", BAD).due("lay(0, -1, 0)", -11).does("sheet(0, 0, 0)");
        a.due("lay(0, -1, 0)", -12).due("read(0, 3, -1, 1)", BAD);
        a.due("read(1, 1, -1, 1)", 0).due("torn()", 1).due("read(0, 1, -1, 1)", 0).due("torn()", 3);
        a.due("read(0, 0, -1, 1)", 0).due("torn()", 2);
    }

    private static void whatIsRefused() {
        says(T, "what is refused changes nothing (but THE TAPE, as told).");
        // BAD of numbers is asked for at every promise; here STATE, FULL, the FAULTS
        Run x = rich();
        x.refuses("deal(1, 0, 9, 3)", STATE).refuses("deal(0, 0, 9, 3)", BAD);
        x.refuses("sheet(0, 2, -1)", -14).refuses("sheet(0, 2, 41)", BAD);
        x.refuses("lay(3, 0, 9)", -11).refuses("lay(2, 0, 9)", -12).refuses("lay(0, 7, 9)", -12);
        x.refuses("end(17)", BAD).refuses("takeBack(0, 4)", BAD).refuses("takeBack(2, 1)", BAD);
        x.refuses("read(0, 1, 1, 1)", -20).refuses("read(0, 1, 0, 14)", BAD);
        x.refuses("keep(2)", BAD).refuses("back(2)", BAD).refuses("keep(-1)", BAD);
        Run image = Run.of(LINE).does("call(0, 0, 1, 1, 1, 0, 0)", "keep(0)", "step(0, 5, 5)");
        image.refuses("back(1)", STATE);
        Run f = full();
        f.refuses("step(0, 0, 1)", FULL).refuses("call(0, 0, 0, 1, 1, 0, 0)", FULL);
        f.refuses("deal(1, 0, 5, 1)", FULL).refuses("deal(1, 0, 4, 1)", STATE);
        f.refuses("feed(-1)", FULL).refuses("read(0, 1, 0, 1)", FULL);
        // a system that is refused empties THE TAPE, as a FAULT of the same kind was there already
        x.copy().due("system()", -26).isAs(x.copy().does("end(0)"), "system()");
    }

    // ---- part 1

    static void places() {
        says(T, "1 PLACES (5 at most) are numbered as they come.");
        taken("place 11;place 12;place 13;place 14;place 15;", 5).due("told(0)", 5)
                .each("price(%, 0)", 11, 12, 13, 14, 15, BAD);
        broken("place 11;place 12;place 13;place 14;place 15;place 16;", 5, 45);

        says(T, "MINUTES 0 to 999 by one clock.");
        Run x = rich().does("call(0, 0, 1, 5, 5, 0, 0)", "call(0, 999, 1, 5, 5, 0, 0)");
        x.bounds("comes(1, 2, %)", 0, 7, 999, 1006);
        x.bounds("knows(1, 1, %, 0)", 0, 0, 999, 999);
        x.bounds("step(0, %, 5)", 0, 5, 999, 5);
        x.bounds("price(0, %)", 0, 100, 999, 120);
        x.bounds("dearest(0, %, 0)", 0, 2, 999, 0).bounds("dearest(1, %, 2)", 0, 1, 999, 0);
        x.bounds("call(0, %, 0, 1, 1, 0, 0)", 0, 5, 999, 5);
        x.bounds("call(0, 0, 0, 1, 1, 1, %)", 0, 5, 999, 5);
        x.copy().due("takeBack(3, 0)", NONE).due("takeBack(3, 999)", 0);
        x.refuses("takeBack(3, -1)", BAD).refuses("takeBack(3, 1000)", BAD);
        x.bounds("stands(3, %)", 0, 1, 999, 1);
        x.bounds("deal(1, 0, %, 1)", 0, STATE, 999, 3);
        x.bounds("gain(0, %, false, 0)", 0, 0, 999, 0).bounds("chance(0, %, true)", 0, NONE, 999, NONE);
        x.bounds("owes(0, 0, %, 0)", 0, 0, 999, -416, Run.WORST);
        x.bounds("over(%)", 0, 2, 999, 0);
        x.bounds("waits(1, %)", 0, 7, 999, 7).bounds("book(%, 1)", 0, 7, 999, 7);
        x.bounds("enough(1, %, 999)", 0, 15, 999, 7).bounds("enough(1, 0, %)", 0, 7, 999, 15);
        within(TWO + "way 0 1 5;shut 0 1 % 999;", 0, 999);
        within(TWO + "way 0 1 5;shut 0 1 0 %;", 0, 999);
    }

    static void tape() {
        says(T, "THE TAPE has 320 bytes, places from 0.");
        String place = "place 5;";
        taken(place + BLANKS.substring(8), 1).due("price(0, 0)", 5);
        taken(BLANKS.substring(8) + place, 1).due("price(0, 0)", 5);
        broken("," + BLANKS.substring(1), 1, 0);
        broken(BLANKS.substring(1) + ",", 1, 319);
        broken("place 5" + BLANKS.substring(7), 2, 320);
        broken(BLANKS.substring(6) + "place5", 2, 320);

        says(T, "TOKENS, each as long as may be,");
        broken("placeplace 5;", 2, 0);
        broken("place 5;mostmost 5;", 2, 8);
        broken("place 1234;", 1, 6);
        broken("first sentnear;", 2, 6);
        broken("moves 11 1;", 3, 6);
        taken("place 12;", 1).due("price(0, 0)", 12);

        says(T, "any number of blanks (32) ahead of, between, behind them");
        taken("   place   5   ;   place   6   ;   ", 2).each("price(%, 0)", 5, 6);
        taken("place 5" + BLANKS.substring(8) + ";", 1);
        taken(BLANKS, 0);
        for (int other : new int[] {0, 9, 10, 13, 31, 33, 160}) {
            broken("place" + (char) other + "5;", 1, 5);
        }

        says(T, "(one at least between two NAMES, between two NUMBERS; else none is needed):");
        taken("place5;place6;way0 1 7;shut0 1 3 4;moves1 1 1;first near;most9;", 7);
        broken("firstnear;", 2, 0);
        taken("first near;", 1).due("told(6)", 1);
        // 01 is one NUMBER, so that 7 is the second PLACE
        broken(TWO + "way 01 7;", 3, 23);
        broken(TWO + "way 0 17;", 3, 22);
        broken("place5place6;", 2, 6);

        says(T, "NAMES (a .. z), NUMBERS (1 to 3 figures), the sign ; (every other byte is no TOKEN).");
        for (int b = 0; b < 256; b++) {
            boolean token = b >= 'a' && b <= 'z' || b >= '0' && b <= '9' || b == ';';
            if (b != ' ') {
                broken((char) b + "", token ? 2 : 1, 0);
            }
            // behind a NUMBER: another figure makes it longer
            if (b != ' ' && b != ';' && (b < '0' || b > '9')) {
                broken("place 5" + (char) b + ";", token ? 2 : 1, 7);
            }
        }
        taken("place 5;", 1).due("price(0, 0)", 5);
        taken("place 55;", 1).due("price(0, 0)", 55);
        taken("place 555;", 1).due("price(0, 0)", 555);
        taken("place 005;", 1).due("price(0, 0)", 5);
        broken("place 5555;", 1, 6);
        broken("place 0005;", 1, 6);
        for (int figure = 1; figure < 10; figure++) {
            taken("place " + figure + "0" + figure + ";", 1).due("price(0, 0)", figure * 101);
        }
    }

    static void lines() {
        says(T, "system: { line }");
        taken("", 0).due("told(0)", 0);
        taken("   ", 0).due("told(0)", 0);
        taken("place 5;", 1);
        String all = allWays() + times(12, "shut0 1 1 1;") + "moves0 0 1;first near;most1;";
        taken(all, 30).each("told(%)", 5, 10, 12, 0, 0, 1, 1, 1);

        says(T, "line: place N ; | way P P N ; | shut P P N N ; | moves N N N ; | first R ; | most N ;");
        String way = TWO + "way 0 1 5;";
        taken("most 5;first near;moves 1 0 0;" + way + "shut 0 1 3 4;", 7);
        String[] whole = {"place 5;", TWO + "way 0 1 5;", way + "shut 0 1 3 4;", "moves 1 0 2;",
            "first sent;", "most 5;"};
        for (String line : whole) {
            String bare = line.substring(0, line.length() - 1);
            // one token more, one less, no sign, another sign
            broken(bare + " 1;", 2, bare.length() + 1);
            broken(bare + " sent;", 2, bare.length() + 1);
            int last = bare.lastIndexOf(' ') + 1;
            broken(bare.substring(0, last) + ";", 2, last);
            broken(bare.substring(0, last) + (line.startsWith("first") ? "1;" : "sent;"), 2, last);
            broken(bare, 2, bare.length());
            broken(bare + ",", 1, bare.length());
            broken(line + ";", 2, line.length());
            broken(line + "5;", 2, line.length());
        }
        broken(TWO + "way 0 5;", 3, 22);
        broken(TWO + "way;", 2, 19);
        broken(TWO + "way 0;", 2, 21);
        broken(way + "shut;", 2, 30);
        broken(way + "shut 0;", 2, 32);
        broken(way + "shut 0 1;", 2, 34);
        broken("moves;", 2, 5);
        broken("moves 1;", 2, 7);
        theirBounds();
    }

    private static void theirBounds() {
        says(T, "place: its PRICE at MINUTE 0 (1 to 999).");
        within("place %;", 1, 999);
        taken("place 999;", 1).due("price(0, 0)", 999);
        taken("place 1;", 1).due("price(0, 0)", 1);
        broken("place 0;", 3, 6);
        broken("place 000;", 3, 6);
        says(T, "way: between two unlike PLACES told ahead: minutes (1 to 99).");
        within(TWO + "way 0 1 %;", 1, 99);
        taken(TWO + "way 0 1 1;", 3).due("way(0, 1)", 1);
        taken(TWO + "way 0 1 99;", 3).due("way(0, 1)", 99);
        taken(TWO + "way 1 0 5;", 3).due("way(0, 1)", 5).due("way(1, 0)", 5);
        broken(TWO + "way 0 0 5;", 3, 22);
        broken(TWO + "way 1 1 5;", 3, 22);
        broken(TWO + "way 2 0 5;", 3, 20);
        broken(TWO + "way 0 2 5;", 3, 22);
        broken("place 1;way 0 1 5;place 1;", 3, 14);
        broken("way 0 1 5;" + TWO, 3, 4);
        says(T, "shut: a way told ahead, from a MINUTE to one no earlier (12 of these at most):");
        String way = TWO + "place 3;way 0 1 5;";
        taken(way + "shut 0 1 7 7;", 5).due("told(2)", 1);
        taken(way + "shut 1 0 0 999;", 5).due("told(2)", 1);
        broken(way + "shut 0 1 7 6;", 3, 45);
        broken(way + "shut 0 1 999 0;", 3, 47);
        broken(way + "shut 0 2 7 7;", 3, 41);
        broken(way + "shut 3 1 7 7;", 3, 39);
        broken(way + "shut 0 3 7 7;", 3, 41);
        broken(TWO + "shut 0 1 7 7;way 0 1 5;", 3, 23);
        taken(way + times(12, "shut 0 1 7 7;"), 16).due("told(2)", 12);
        broken(way + times(13, "shut 0 1 7 7;"), 5, 34 + 12 * 13);
        says(T, "what would leave in these waits till the MINUTE behind.");
        Run x = Run.of(TWO + "way 0 1 5;shut 1 0 7 9;");
        x.due("comes(0, 1, 6)", 11).due("comes(0, 1, 7)", 15).due("comes(0, 1, 9)", 15);
        x.due("comes(0, 1, 10)", 15).due("comes(0, 1, 11)", 16);
        x.due("comes(1, 0, 6)", 11).due("comes(1, 0, 7)", 15).due("comes(1, 0, 9)", 15);
        Run.of(TWO + "way 0 1 5;shut 0 1 0 999;").due("comes(0, 1, 0)", 1005)
                .due("comes(0, 1, 999)", 1005);
        says(T, "moves: chances in a minute that a worth goes down by 1, stays, goes up by 1 (0 to 4 "
                + "each, not all 0; 1 2 1, if it is not told).");
        within("moves % 1 1;", 0, 4);
        within("moves 1 % 1;", 0, 4);
        within("moves 1 1 %;", 0, 4);
        broken("moves 0 0 0;", 3, 10);
        taken("moves 1 0 0;", 1).due("odds(1, -1, 0)", 1).due("odds(1, 0, 0)", 0);
        taken("moves 0 1 0;", 1).due("odds(1, 0, 0)", 1).due("odds(1, 1, 0)", 0);
        taken("moves 0 0 1;", 1).due("odds(1, 1, 0)", 1).due("odds(1, -1, 0)", 0);
        taken("place 1;", 1).due("told(3)", 1).due("told(4)", 2).due("told(5)", 1);
        says(T, "first: R sent, near or number (sent).");
        taken("first sent;", 1).due("told(6)", 0);
        taken("first near;", 1).due("told(6)", 1);
        taken("first number;", 1).due("told(6)", 2);
        taken("place 1;", 1).due("told(6)", 0);
        broken("first place;", 2, 6);
        says(T, "most: how much a PLACE may owe (1 to 999; 999).");
        within("most %;", 1, 999);
        broken("most 0;", 3, 5);
        taken("most 1;", 1).due("told(7)", 1);
        taken("most 999;", 1).due("told(7)", 999);
        taken("place 1;", 1).due("told(7)", 999);
    }

    static void faults() {
        says(T, "FAULTS, the first met as it is read (a TOKEN is read when the one before has been "
                + "taken):");
        broken("place 0,", 3, 6);
        broken("x,", 2, 0);
        broken("place 5 5,", 2, 8);
        broken("way 0,", 3, 4);
        broken("moves 0 0 0,", 3, 10);
        broken("first far,", 2, 6);
        broken("most 5;most,", 4, 7);
        broken(times(5, "place 1;") + "place,", 5, 40);
        broken("place ,;place 0;", 1, 6);
        broken("place 1000 0;", 1, 6);
        says(T, "1 no TOKEN, a NUMBER that is too long (its first byte).");
        broken("place 5;Place 6;", 1, 8);
        broken("place 5;  1000;", 1, 10);
        broken("place  1000;", 1, 7);
        broken("1234", 1, 0);
        broken("first 1000;", 1, 6);
        broken("place 5 1000;", 1, 8);
        says(T, "2 a TOKEN that can not stand there (a NAME that begins no line, is no R; or the end: "
                + "the length).");
        broken("sent;", 2, 0);
        broken("place 5;number;", 2, 8);
        broken("plac 5;", 2, 0);
        for (String name : new String[] {"place", "way", "shut", "moves", "first", "most"}) {
            nearly("", name, name.equals("first") ? " sent;" : " 1 1 1;");
        }
        for (String name : new String[] {"sent", "near", "number"}) {
            nearly("first ", name, ";");
        }
        broken("first most;", 2, 6);
        broken("first sen;", 2, 6);
        broken("first;", 2, 5);
        broken("place", 2, 5);
        broken("place  ", 2, 7);
        broken("place 5", 2, 7);
        broken("place 5  ", 2, 9);
        broken("first", 2, 5);
        broken(";", 2, 0);
        says(T, "3 a NUMBER out of its bounds (the third of moves, if all are 0; the second PLACE like "
                + "the first; of shut also, if there is no way between them).");
        broken("moves 0  0   0;", 3, 13);
        broken("moves 0 0 5;", 3, 10);
        broken("moves 5 0 0;", 3, 6);
        broken(TWO + "way  0  0 5;", 3, 24);
        broken(TWO + "way 0 1 5;shut  1  1 3 4;", 3, 35);
        broken(TWO + "shut 0 1 3 4;", 3, 23);
        broken(TWO + "place 3;way 0 1 5;shut 2 1 3 4;", 3, 41);
        // with all PLACES and all ways, too
        String all = allWays();
        for (int other = 5; other < 13; other++) {
            for (int p = 0; p < 5; p++) {
                broken(all + "shut " + p + " " + other + " 1 1;", 3, all.length() + 7);
                broken(all + "way " + p + " " + other + " 1;", 3, all.length() + 6);
            }
            broken(all + "shut " + other + " 0 1 1;", 3, all.length() + 5);
            broken(all + "way " + other + " 0 1;", 3, all.length() + 4);
        }
        for (int p = 0; p < 5; p++) {
            broken(all + "shut " + p + " " + p + " 1 1;", 3, all.length() + 7);
        }
        says(T, "4 moves, first, most for the second time (its NAME), a way between those two, either "
                + "way round (its second PLACE).");
        broken("moves 1 1 1; moves 1 1 1;", 4, 13);
        broken("first sent; first sent;", 4, 12);
        broken("most 999; most 999;", 4, 10);
        broken("most 5;place 1;most 5;", 4, 15);
        broken(TWO + "way 0 1 5;way 0  1 5;", 4, 33);
        broken(TWO + "way 0 1 5;way 1  0 5;", 4, 33);
        broken(TWO + "way 0 1 1;way 0 1 1;", 4, 32);
        broken(TWO + "way 1 0 99;way 0 1 99;", 4, 33);
        // what another text told, taken or not, is not the first time
        Run again = Run.of("moves 1 1 1;first sent;most 5;");
        again.writes("moves 1 1 1;first sent;most 5;,").due("system()", -40).due("fault()", 1);
        again.writes(TWO + "way 0 1 5;moves 1 1 0;first near;most 6;").due("system()", 6);
        again.writes(TWO + "way 0 1 6;moves 1 0 0;first number;most 7;").due("system()", 6);
        again.each("told(%)", 2, 1, 0, 1, 0, 0, 2, 7).due("way(1, 0)", 6);
        taken(TWO + "place 3;way 0 1 5;way 1 2 5;way 2 0 5;", 6).due("told(1)", 3);
        says(T, "5 the 6th PLACE, the 13th shut (its NAME).");
        broken(times(5, "place 1;") + " place 1;", 5, 41);
        broken(TWO + "way 0 1 5;" + times(12, "shut 0 1 7 7;") + " shut 0 1 7 7;", 5, 183);
        says(T, "A system that is taken stands in place of what there was (what no line tells is as at "
                + "first);");
        Run x = Run.of(STAR + "shut 0 1 3 4;moves 4 4 0;first number;most 5;");
        x.writes("place 8;").due("system()", 1).each("told(%)", 1, 0, 0, 1, 2, 1, 0, 999);
        x.due("price(0, 0)", 8).due("price(1, 0)", BAD);
        x.writes(TWO).due("system()", 2).due("way(0, 1)", NONE).due("comes(0, 1, 0)", NONE);
        x.writes(TWO + "way 0 1 5;").due("system()", 3).due("comes(0, 1, 3)", 8);
        x.writes("").due("system()", 0).due("told(0)", 0);
        x.isAs(Run.fresh(), "an empty text");
        says(T, "no STEPS, CALLS, DEALS; IMAGES are gone; SHEETS stay.");
        Run y = rich();
        y.writes(LINE).due("system()", 5).each("count(%)", 0, 0, 0, 0, 0, 7);
        y.due("price(0, 999)", 100).due("of(0, 0)", BAD).due("sent(0, 0)", BAD);
        y.due("back(0)", STATE).due("back(1)", STATE).due("keep(0)", 0);
        y.due("read(0, 1, 0, 2)", 2).due("read(1, 0, 0, 1)", 1).due("price(1, 7)", 70);
        y.due("lay(3, 0, 0)", -11).due("lay(2, 0, 0)", -12);
    }

    // ---- promises 1 to 7

    static void promises() {
        says(1, "No PLACES; all as told at first; SHEETS have nothing.");
        Run x = Run.fresh();
        x.each("told(%)", 0, 0, 0, 1, 2, 1, 0, 999).each("count(%)", 0, 0, 0, 0, 0, NONE);
        x.due("fault()", 0).due("torn()", 0).each("lay(%, 0, 0)", -11, -11, -11, -11);
        x.each("back(%)", STATE, STATE).each("read(%, 0, 0, 1)", 0, 0, 0, 0).due("torn()", 1);
        withoutPlaces();
        withoutRows();

        says(2, "Eight bytes come behind THE TAPE, the highest first: how many it has.");
        Run y = Run.fresh().due(Run.feed("place 5;"), 8).due(Run.feed("place 6;"), 16);
        y.due("system()", 2).each("price(%, 0)", 5, 6);
        y.due("feed(-1)", 8).due("system()", -10).due("fault()", 1);
        y.due(Run.feed("       " + (char) 255), 8).due("system()", -17).due("fault()", 1);
        y.does(Run.feed("place 5;"), "end(5)").due(Run.feed("        "), 13);
        y.due("system()", -23);
        says(2, "FULL: more than 320.");
        Run f = Run.fresh();
        for (int i = 1; i <= 40; i++) {
            f.due(Run.feed("        "), 8 * i);
        }
        f.refuses("feed(0)", FULL).refuses("feed(" + Long.MIN_VALUE + ")", FULL);
        f.does("end(319)").refuses("feed(0)", FULL).does("end(313)").refuses("feed(0)", FULL);
        f.does("end(312)").due(Run.feed("        "), 320).refuses("feed(0)", FULL);
        f.due("system()", 0).due("feed(0)", 8);

        says(3, "THE TAPE keeps its first n bytes: how many it had.");
        Run e = rich();
        e.copy().due("end(16)", 16).due("system()", -26);
        e.copy().due("end(15)", 16).due("end(8)", 15).due("end(8)", 8).due("system()", 1);
        e.copy().due("end(0)", 16).due("end(0)", 0).due("system()", 0);
        says(3, "BAD (n above that, too).");
        e.bounds("end(%)", 0, 16, 16, 16);
        Run.fresh().bounds("end(%)", 0, 0, 0, 0);
        full().bounds("end(%)", 0, 320, 320, 320);

        promisesOfSystem();

        says(6, "0 PLACES, 1 ways, 2 shuts, 3, 4, 5 moves, 6 R (0 sent, 1 near, 2 number), 7 most.");
        Run.of(STAR + "shut 0 1 3 4;shut 0 2 3 4;moves 3 0 4;first number;most 300;")
                .each("told(%)", 4, 3, 2, 3, 0, 4, 2, 300);
        Run.of("first near;").due("told(6)", 1);
        Run.of("first sent;").due("told(6)", 0);
        says(6, "BAD.");
        rich().bounds("told(%)", 0, 3, 7, 300);

        says(7, "Minutes of the way between two PLACES; NONE: there is none.");
        Run w = rich();
        w.due("way(0, 1)", 5).due("way(1, 0)", 5).due("way(1, 2)", 7).due("way(2, 1)", 7);
        w.due("way(0, 2)", NONE).due("way(2, 0)", NONE);
        says(7, "BAD: also one and the same.");
        w.refuses("way(0, 0)", BAD).refuses("way(2, 2)", BAD).refuses("way(3, 3)", BAD);
        w.bounds("way(%, 1)", 0, 5, 2, 7).bounds("way(1, %)", 0, 5, 2, 7);
    }

    private static void promisesOfSystem() {
        says(4, "THE TAPE (empty then, by a FAULT, too) tells the system: how many lines;");
        Run x = rich().due("system()", -26).due("count(4)", 0);
        x.does(Run.feed("place 5;")).due("system()", 1).due("count(4)", 0);
        x.due("system()", 0).due("told(0)", 0).due("count(4)", 0);
        taken("place 5;place 6;", 2);
        says(4, "-10 less the place of its FAULT: that which was told stays.");
        broken("x", 2, 0);
        broken(" x", 2, 1);
        broken(BLANKS.substring(1) + "x", 2, 319);
        Run y = rich().due("system()", -26).each("told(%)", 3, 2, 1, 3, 0, 4, 1, 300);
        y.each("count(%)", 4, 3, 3, 2, 0, 7).due("price(0, 30)", 120).due("of(0, 7)", 49);
        y.due("back(1)", 3).each("count(%)", 2, 3, 1, 2);

        says(5, "The FAULT of the latest system(); 0.");
        Run z = Run.fresh().due("fault()", 0);
        String[] texts = {",", "x", "most 0;", "most 1;most 1;", times(6, "place 1;")};
        for (int i = 0; i < texts.length; i++) {
            z.tell(texts[i]);
            z.due("fault()", i + 1).due("told(9)", BAD).due("fault()", i + 1);
        }
        z.due("system()", 0).due("fault()", 0);
        z.tell(",");
        z.due("fault()", 1);
        z.tell("place 5;");
        z.due("fault()", 0);
    }

    /** Every call on an object without PLACES. */
    private static void withoutPlaces() {
        Run x = Run.fresh();
        String[] bad = {"way(0, 1)", "comes(0, 0, 0)", "knows(0, 0, 0, 0)", "step(0, 0, 1)",
            "price(0, 0)", "dearest(0, 0, 2)", "dearest(0, 0, 3)", "call(0, 0, 0, 1, 1, 0, 0)",
            "takeBack(0, 0)", "takeBack(0, NONE)", "of(0, 0)", "stands(0, 0)", "seen(0, 0, 0)",
            "deal(0, 0, 0, 1)", "sent(0, 0)", "undo(0, 0)", "gain(0, 0, true, 0)",
            "chance(0, 0, false)", "waits(0, 0)", "enough(0, 0, 0)", "end(1)"};
        for (String call : bad) {
            x.refuses(call, BAD);
        }
        x.refuses("owes(0, 0, 0, 0)", Run.WORST).refuses("peak(0, 0)", Run.WORST);
        x.refuses("owes(0, 0, 0, 1)", Run.WORST).refuses("owes(0, 0, 0, 2)", Run.WORST);
        x.each("dearest(0, 0, %)", NONE, NONE).each("empty(%)", 0, 0, 0).due("over(0)", 0);
        x.each("book(0, %)", NONE, NONE).each("odds(1, 0, %)", 1, 2).each("loss(1, 0, %)", 1, 2);
        x.due("wide(1, 0, 1)", 1).each("near(1, 0, 0, %)", 1, 2).due("end(0)", 0);
        x.due("keep(0)", 0).due("back(0)", 0).due("keep(0)", 1).due("count(3)", 1);
        x.due("sheet(0, 0, 3)", 1).due("read(0, 0, 0, 1)", -20).due("system()", 0);
    }

    /** Every call on an object with PLACES alone. */
    private static void withoutRows() {
        Run x = Run.of(LINE);
        String[] bad = {"takeBack(0, 0)", "takeBack(0, NONE)", "of(0, 0)", "stands(0, 0)",
            "seen(0, 0, 0)", "deal(0, 0, 0, 1)", "sent(0, 0)"};
        for (String call : bad) {
            x.refuses(call, BAD);
        }
        x.each("empty(%)", 0, 0, 0).each("undo(0, %)", 0, 0).each("gain(0, 999, false, %)", 0, 0);
        x.due("chance(0, 0, false)", NONE).due("chance(0, 0, true)", NONE);
        x.each("owes(0, 1, 999, %)", 0, 0, 0).due("over(999)", 0).each("peak(0, %)", 0, 0);
        x.each("price(%, 999)", 100, 90, 110).due("knows(1, 0, 999, 2)", 100);
        x.due("keep(1)", 0).due("back(1)", 0).each("count(%)", 0, 0, 0, 1, 0, NONE);
    }
}
