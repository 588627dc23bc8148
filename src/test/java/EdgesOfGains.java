/** What the document says of GAIN and of who OWES what; promises 22 to 26. */
final class EdgesOfGains {
    private static final int BAD = Run.BAD, NONE = Run.NONE, WORST = Run.WORST;
    private static final int T = Sentences.TERMS;
    private static final String LINE = EdgesOfText.LINE, STAR = EdgesOfText.STAR;

    private EdgesOfGains() {
    }

    private static void says(int section, String sentence) {
        Sentences.says(section, sentence);
    }

    /** 1 can buy of 0 at 50 and sell to 2 at 60, three units; more calls follow of 0 and 2. */
    private static Run between(String sell, String buy) {
        return Run.of(LINE).does("call(0, 0, 1, 50, 3, " + sell + ")", "call(2, 0, 0, 60, 3, " + buy + ")");
    }

    static void terms() {
        says(T, "GAIN of a PLACE at a MINUTE, by CALLS of others to which a DEAL sent then COMES, of "
                + "which it KNOWS that they were called and does not KNOW that they were TAKEN BACK, but "
                + "for TIMED ones that end ahead of the MINUTE at which that DEAL COMES (nothing else of "
                + "it is looked at):");
        Run x = between("0, 0", "0, 0");
        x.due("gain(1, 6, false, 0)", 0).due("gain(1, 7, false, 0)", 30).due("gain(1, 999, false, 0)", 30);
        x.due("gain(0, 999, false, 0)", 0).due("gain(2, 999, false, 0)", 0);
        // known to be taken back at 25, at 27
        x.does("takeBack(0, 20)").due("gain(1, 24, false, 0)", 30).due("gain(1, 25, false, 0)", 0);
        x.does("takeBack(0, NONE)", "takeBack(1, 20)").due("gain(1, 26, false, 0)", 30);
        x.due("gain(1, 27, false, 0)", 0).does("takeBack(1, 999)").due("gain(1, 999, false, 0)", 30);
        x.does("takeBack(1, 992)").due("gain(1, 998, false, 0)", 30).due("gain(1, 999, false, 0)", 0);
        x.does("takeBack(1, 0)").due("gain(1, 7, false, 0)", 0);
        // a deal of 12 is there at 17, at 19
        Run t = between("1, 17", "1, 30").due("gain(1, 12, false, 0)", 30).due("gain(1, 13, false, 0)", 0);
        t = between("1, 30", "1, 19").due("gain(1, 12, false, 0)", 30).due("gain(1, 13, false, 0)", 0);
        between("1, 999", "0, 0").due("gain(1, 994, false, 0)", 30).due("gain(1, 995, false, 0)", 0);
        // what is shut: sent at 10, a deal is at 0 at 25
        Run s = Run.of(LINE + "shut 0 1 10 19;").does("call(0, 0, 1, 50, 3, 1, 24)",
                "call(2, 0, 0, 60, 3, 0, 0)");
        s.due("gain(1, 9, false, 0)", 30).due("gain(1, 10, false, 0)", 0).due("gain(1, 19, false, 0)", 0);
        // neither that it fell nor that it is not there when the deal comes is looked at
        Run u = between("2, 0", "0, 0").does("step(0, 1, 5)").due("of(0, 7)", 0);
        u.due("gain(1, 7, false, 0)", 30).due("gain(1, 999, false, 0)", 30);
        Run apart = Run.of("place 1;place 1;place 1;way 0 1 1;").does("call(0, 0, 1, 50, 3, 0, 0)",
                "call(2, 0, 0, 60, 3, 0, 0)");
        apart.due("gain(1, 999, false, 0)", 0);

        says(T, "units of SELL ones bought, as many of BUY ones sold, one unit after another (the "
                + "cheapest with the dearest), what that brings, as long as a unit brings something.");
        Run y = between("0, 0", "0, 0");
        y.each("gain(1, 9, false, %)", 30, 3).does("call(0, 0, 1, 49, 1, 0, 0)");
        y.each("gain(1, 9, false, %)", 31, 3).does("call(2, 0, 0, 51, 2, 0, 0)");
        y.each("gain(1, 9, false, %)", 11 + 10 + 10 + 1, 4).does("call(2, 0, 0, 61, 1, 0, 0)");
        y.each("gain(1, 9, false, %)", 12 + 10 + 10 + 10, 4).does("call(0, 0, 1, 51, 9, 0, 0)");
        y.each("gain(1, 9, false, %)", 42, 4).does("call(0, 0, 1, 1, 9, 0, 0)");
        y.each("gain(1, 9, false, %)", 60 + 3 * 59 + 2 * 50, 6);
        alike("call(2, 0, 0, 50, 3, 0, 0)", 0, 0);
        alike("call(2, 0, 0, 49, 3, 0, 0)", 0, 0);
        alike("call(2, 0, 0, 51, 3, 0, 0)", 3, 3);
        alike("call(2, 0, 0, 51, 99, 0, 0)", 3, 3);
        alike("call(2, 0, 0, 51, 1, 0, 0)", 1, 1);
        alike("call(0, 0, 1, 40, 1, 0, 0)", 0, 0);
        Run most = Run.of(LINE);
        for (int i = 0; i < 6; i++) {
            most.does("call(0, 0, 1, 1, 99, 0, 0)", "call(2, 0, 0, 999, 99, 0, 0)");
        }
        most.each("gain(1, 7, false, %)", 6 * 99 * 998, 6 * 99);
        // of one and the same other place, too
        Run one = Run.of(LINE).does("call(0, 0, 1, 5, 2, 0, 0)", "call(0, 0, 0, 6, 2, 0, 0)");
        one.each("gain(1, 5, false, %)", 2, 2).each("gain(0, 5, false, %)", 0, 0);
        Run turned = Run.of(LINE).does("call(0, 0, 0, 6, 2, 0, 0)", "call(0, 0, 1, 5, 2, 0, 0)");
        turned.each("gain(1, 5, false, %)", 2, 2);

        says(T, "SURE GAIN: by the TIMED ones of these alone.");
        between("1, 99", "1, 99").each("gain(1, 9, true, %)", 30, 3).each("gain(1, 9, false, %)", 30, 3);
        between("1, 99", "0, 0").each("gain(1, 9, true, %)", 0, 0).each("gain(1, 9, false, %)", 30, 3);
        between("2, 999", "1, 99").each("gain(1, 9, true, %)", 0, 0).each("gain(1, 9, false, %)", 30, 3);
        Run sure = between("1, 99", "1, 99").does("call(0, 0, 1, 1, 1, 0, 0)");
        sure.each("gain(1, 9, true, %)", 30, 3).each("gain(1, 9, false, %)", 79, 3);

        says(T, "(Units as called: what DEALS take is not looked at.)");
        Run d = between("1, 99", "1, 99").does("deal(1, 0, 9, 3)", "deal(1, 1, 9, 3)").due("of(0, 8)", 3);
        d.each("gain(1, 20, false, %)", 30, 3).each("gain(1, 20, true, %)", 30, 3);

        termsOfDebts();
    }

    /** What another call brings with one to sell three at 50. */
    private static void alike(String call, long brings, long units) {
        Run.of(LINE).does("call(0, 0, 1, 50, 3, 0, 0)", call).each("gain(1, 9, false, %)", brings, units);
    }

    private static void termsOfDebts() {
        says(T, "OWES: what a PLACE pays for units STRUCK that it buys, less what it is paid for those it "
                + "sells, of DEALS that were STRUCK by a MINUTE;");
        Run x = debts();
        x.due("owes(1, 0, 19, 0)", 0).due("owes(1, 0, 20, 0)", 100).due("owes(1, 0, 999, 0)", 100);
        x.due("owes(0, 0, 19, 0)", 0).due("owes(0, 0, 20, 0)", -100).due("owes(0, 0, 24, 0)", -100);
        x.due("owes(0, 0, 25, 0)", -250).due("owes(0, 0, 44, 0)", -250).due("owes(0, 0, 45, 0)", -330);
        x.due("owes(2, 0, 24, 0)", 0).due("owes(2, 0, 25, 0)", 150).due("owes(2, 0, 45, 0)", 230);
        x.due("owes(3, 0, 999, 0)", 0);
        // a void one, one that takes part of what it wants, one that comes above 999
        x.does("deal(3, 0, 30, 9)", "deal(1, 1, 985, 1)").due("owes(3, 0, 999, 0)", 0);
        Run p = Run.of(STAR).does("call(0, 0, 1, 999, 99, 0, 0)", "deal(2, 0, 994, 98)",
                "deal(2, 0, 994, 99)", "deal(2, 0, 995, 99)");
        p.due("owes(2, 0, 998, 0)", 0).due("owes(2, 0, 999, 0)", 99 * 999);
        p.due("owes(0, 0, 999, 0)", -99 * 999);

        says(T, "as a PLACE KNOWS it at a MINUTE: of those DEALS alone of which news has COME there by "
                + "then, from the CALL's PLACE.");
        Run y = debts();
        y.due("owes(1, 0, 19, 1)", 0).due("owes(1, 0, 20, 1)", 100);
        y.due("owes(1, 1, 29, 1)", 0).due("owes(1, 1, 30, 1)", 100);
        y.due("owes(0, 3, 39, 1)", 0).due("owes(0, 3, 40, 1)", -100).due("owes(0, 3, 44, 1)", -100);
        y.due("owes(0, 3, 45, 1)", -250).due("owes(0, 3, 69, 1)", -250).due("owes(0, 3, 70, 1)", -330);
        // struck at 2's, so that 2 knows at once and 0 five minutes later
        y.due("owes(0, 2, 44, 1)", -250).due("owes(0, 2, 45, 1)", -330);
        y.due("owes(0, 0, 49, 1)", -250).due("owes(0, 0, 50, 1)", -330);
        Run apart = Run.of(LINE + "place 5;").does("call(0, 0, 1, 5, 1, 0, 0)", "deal(1, 0, 5, 1)");
        apart.due("owes(1, 3, 999, 1)", 0).due("owes(1, 1, 999, 1)", 5);

        says(T, "AT MOST: that, and price times units of all BUY CALLS of it that are not STRUCK yet, as "
                + "far as they STAND then.");
        Run z = debts();
        z.due("owes(2, 0, 0, 2)", 200).due("owes(2, 0, 24, 2)", 200).due("owes(2, 0, 25, 2)", 350);
        z.due("owes(2, 0, 44, 2)", 350).due("owes(2, 0, 45, 2)", 350);
        z.due("owes(2, 0, 60, 2)", 350).due("owes(2, 0, 61, 2)", 230).due("owes(0, 0, 0, 2)", 0);
        z.due("owes(0, 0, 20, 2)", -100).due("owes(3, 0, 0, 2)", 0);
        z.does("call(2, 10, 0, 1, 1, 0, 0)", "call(2, 0, 1, 900, 9, 0, 0)").due("owes(2, 0, 9, 2)", 200);
        z.due("owes(2, 0, 10, 2)", 201).does("takeBack(2, 12)").due("owes(2, 0, 11, 2)", 201);
        z.due("owes(2, 0, 12, 2)", 200).does("takeBack(1, 45)").due("owes(2, 0, 44, 2)", 350);
        z.due("owes(2, 0, 45, 2)", 150);
        // all CALLS and DEALS that there can be: six to buy nine units each, two of each bought
        Run f = EdgesOfText.full().due("owes(1, 0, 32, 0)", 0).due("owes(1, 0, 33, 0)", 12);
        f.due("owes(1, 1, 37, 1)", 0).due("owes(1, 1, 38, 1)", 12).due("owes(0, 0, 0, 2)", 36 * 9);
        f.each("owes(0, 2, 999, %)", -12, -12, 36 * 7 - 12).each("owes(1, 2, 999, %)", 12, 12, 12);
        f.each("peak(0, %)", 20, 6).each("peak(1, %)", 33, 12).each("undo(1, %)", 0, 0);
        Run all = Run.of(STAR).does("call(2, 0, 0, 10, 4, 0, 0)", "deal(0, 0, 10, 4)");
        all.due("owes(2, 0, 14, 2)", 40).due("owes(2, 0, 15, 2)", 40).due("owes(2, 0, 999, 2)", 40);
    }

    /** Struck at 20: 1 owes 0 100; at 25: 2 owes 0 150; at 45: 2 owes 0 80. 2 would buy for 200. */
    private static Run debts() {
        return Run.of(STAR + "most 120;").does("call(0, 0, 1, 50, 5, 0, 0)", "call(2, 0, 0, 20, 10, 1, 60)",
                "deal(1, 0, 10, 2)", "deal(2, 0, 20, 3)", "deal(0, 1, 40, 4)");
    }

    // ---- promises 22 to 26

    static void promises() {
        Run x = EdgesOfText.rich();
        Run b = between("1, 30", "1, 40");
        says(22, "GAIN of a PLACE at a MINUTE (sure true: SURE GAIN): 0 what it brings, 1 units.");
        b.copy().each("gain(1, 7, true, %)", 30, 3).each("gain(1, 7, false, %)", 30, 3)
                .each("gain(1, 6, true, %)", 0, 0).each("gain(1, 25, true, %)", 30, 3)
                .each("gain(1, 26, true, %)", 0, 0).each("gain(0, 7, false, %)", 0, 0);
        between("0, 0", "0, 0").each("gain(1, 7, true, %)", 0, 0).each("gain(1, 7, false, %)", 30, 3);
        says(22, "BAD.");
        b.bounds("gain(%, 7, true, 0)", 0, 0, 2, 0).bounds("gain(1, %, true, 0)", 0, 0, 999, 0);
        b.bounds("gain(1, 7, true, %)", 0, 30, 1, 3).bounds("gain(1, 7, false, %)", 0, 30, 1, 3);
        x.bounds("gain(%, 20, false, 0)", 0, 0, 2, 0).refuses("gain(0, 1000, true, 1)", BAD);

        says(23, "The first MINUTE from a MINUTE on in which a PLACE has a GAIN (sure: a SURE one) above "
                + "0.");
        b.copy().due("chance(1, 0, true)", 7).due("chance(1, 7, true)", 7).due("chance(1, 8, true)", 8)
                .due("chance(1, 25, true)", 25).due("chance(1, 26, true)", NONE);
        Run p = between("0, 0", "0, 0").due("chance(1, 0, false)", 7).due("chance(1, 999, false)", 999);
        p.due("chance(1, 0, true)", NONE).does("takeBack(0, 20)").due("chance(1, 24, false)", 24);
        p.due("chance(1, 25, false)", NONE).does("call(0, 992, 1, 59, 1, 0, 0)");
        p.due("chance(1, 25, false)", 997).due("chance(1, 998, false)", 998);
        p.does("call(0, 100, 1, 60, 1, 0, 0)").due("chance(1, 25, false)", 997);
        Run late = between("0, 0", "0, 0").does("takeBack(0, 0)", "call(0, 994, 1, 1, 1, 0, 0)");
        late.due("chance(1, 0, false)", 999).does("takeBack(2, 994)").due("chance(1, 0, false)", NONE);
        late.does("call(0, 995, 1, 1, 1, 0, 0)").due("chance(1, 0, false)", NONE);
        Run turned = Run.of(LINE).does("call(0, 0, 0, 6, 2, 0, 0)", "call(0, 0, 1, 5, 2, 0, 0)");
        turned.due("chance(1, 0, false)", 5).due("chance(0, 0, false)", NONE);
        says(23, "BAD; NONE.");
        b.bounds("chance(%, 0, false)", 0, NONE, 2, NONE).bounds("chance(1, %, false)", 0, 7, 999, NONE);
        b.bounds("chance(1, %, true)", 0, 7, 999, NONE);
        Run.of(EdgesOfText.APART).due("chance(0, 0, false)", NONE).due("chance(2, 0, false)", BAD);

        promisesOfDebts();
    }

    private static void promisesOfDebts() {
        Run d = debts();
        says(24, "OWES of a PLACE by a MINUTE (what 0), as PLACE b KNOWS it at that MINUTE (1), AT MOST "
                + "(2).");
        d.copy().each("owes(2, 1, 25, %)", 150, 0, 350).each("owes(2, 1, 35, %)", 150, 150, 350)
                .each("owes(0, 1, 999, %)", -330, -330, -330).each("owes(3, 0, 0, %)", 0, 0, 0);
        says(24, "BAD -1000000.");
        d.bounds("owes(%, 0, 45, 0)", 0, -330, 3, 0, WORST);
        d.bounds("owes(%, 0, 999, 1)", 0, -330, 3, 0, WORST);
        d.bounds("owes(%, 0, 45, 2)", 0, -330, 3, 0, WORST);
        d.bounds("owes(0, %, 45, 1)", 0, -250, 3, -250, WORST);
        d.bounds("owes(0, 0, %, 0)", 0, 0, 999, -330, WORST);
        d.bounds("owes(0, 0, %, 1)", 0, 0, 999, -330, WORST);
        d.bounds("owes(2, 0, %, 2)", 0, 200, 999, 230, WORST);
        d.bounds("owes(2, 0, 45, %)", 0, 230, 2, 350, WORST);
        says(24, "(what 0, 2: b is not looked at.)");
        for (String b : new String[] {"-1", "3", "4", "LOW", "HIGH"}) {
            d.copy().due("owes(2, " + b + ", 45, 0)", 230).due("owes(2, " + b + ", 45, 2)", 350);
        }

        says(25, "PLACES that, by a MINUTE, AT MOST OWE more than most (bits).");
        d.copy().due("over(0)", 4).due("over(60)", 4).due("over(61)", 4).due("over(999)", 4);
        Run o = d.copy().does("call(1, 30, 0, 20, 1, 0, 0)").due("over(29)", 4).due("over(30)", 4);
        o.does("call(1, 31, 0, 1, 1, 1, 32)").due("over(30)", 4).due("over(31)", 6);
        o.due("over(32)", 6).due("over(33)", 4);
        Run all = Run.of(STAR + "place 5;most 1;").due("over(0)", 0);
        for (int p = 0; p < 5; p++) {
            all.does("call(" + p + ", 9, 0, 1, 2, 0, 0)");
        }
        all.due("over(8)", 0).due("over(9)", 31).due("over(999)", 31);
        Run.of("place 5;").does("call(0, 0, 0, 999, 1, 0, 0)").due("over(0)", 0)
                .does("call(0, 1, 0, 1, 1, 0, 0)").due("over(0)", 0).due("over(1)", 1);
        says(25, "BAD.");
        d.bounds("over(%)", 0, 4, 999, 4);
        Run.fresh().bounds("over(%)", 0, 0, 999, 0);

        says(26, "The MINUTE in which a PLACE OWES the most, of several the first (what 0), that (1).");
        d.copy().each("peak(0, %)", 0, 0).each("peak(1, %)", 20, 100).each("peak(2, %)", 45, 230)
                .each("peak(3, %)", 0, 0);
        Run p = Run.of(STAR).does("call(0, 0, 1, 10, 9, 0, 0)", "call(0, 0, 0, 10, 9, 0, 0)");
        p.does("deal(2, 0, 30, 1)").each("peak(2, %)", 35, 10).each("peak(0, %)", 0, 0);
        p.does("deal(2, 1, 50, 1)").each("peak(2, %)", 35, 10);
        p.does("deal(2, 0, 70, 1)").each("peak(2, %)", 35, 10);
        p.does("deal(2, 0, 80, 1)").each("peak(2, %)", 85, 20);
        p.does("deal(2, 0, 20, 1)").each("peak(2, %)", 85, 30);
        // what comes in one minute counts together
        p.does("deal(2, 1, 80, 1)").each("peak(2, %)", 35, 20);
        Run last = Run.of(STAR).does("call(0, 0, 1, 10, 9, 0, 0)", "deal(2, 0, 995, 1)");
        last.each("peak(2, %)", 0, 0).does("deal(2, 0, 994, 1)").each("peak(2, %)", 999, 10);
        says(26, "BAD -1000000.");
        d.bounds("peak(%, 0)", 0, 0, 3, 0, WORST).bounds("peak(%, 1)", 0, 0, 3, 0, WORST);
        d.bounds("peak(2, %)", 0, 45, 1, 230, WORST);
    }
}
