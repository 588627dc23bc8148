import java.util.ArrayList;
import java.util.List;
import java.util.Random;

/** Runs of calls by chance (always the same ones), each answer compared with the Model's. */
public final class ModelTest {
    private static final int RUNS = 1500;
    private static final int CALLS = 512;

    private final Random random;
    private final LatePrices got = new LatePrices();
    private final Model want = new Model();
    private final List<String> log = new ArrayList<>();
    private int calls;
    private int places;
    private int range = 60;
    /** The first of the minutes that most is told of: the first of all, or such that 999 is the last. */
    private int base;
    /** Short ways, few minutes, low bounds: much comes at once and much is struck. */
    private boolean dense;
    private boolean wrong;

    private ModelTest(long seed) {
        random = new Random(seed);
    }

    private void same(String call, long got, long want) {
        calls++;
        log.add(call + " -> " + want);
        if (got != want) {
            wrong = true;
            log.add("!! " + call + " answered " + got + ", due is " + want);
        }
    }

    private int below(int n) {
        return random.nextInt(n);
    }

    private boolean oneIn(int n) {
        return random.nextInt(n) == 0;
    }

    // ---- texts

    private String blanks(boolean needed) {
        StringBuilder s = new StringBuilder(needed ? " " : "");
        while (oneIn(12)) {
            s.append(' ');
        }
        return s.toString();
    }

    private String join(Object... tokens) {
        StringBuilder s = new StringBuilder();
        String before = ";";
        for (Object o : tokens) {
            String token = o.toString();
            boolean alike = Character.isLetter(before.charAt(0)) && Character.isLetter(token.charAt(0))
                    || Character.isDigit(before.charAt(0)) && Character.isDigit(token.charAt(0));
            s.append(blanks(alike || oneIn(3))).append(token);
            before = token;
        }
        return s.append(blanks(false)).append(';').append(blanks(false)).toString();
    }

    private int number(int low, int high) {
        if (oneIn(120)) {
            return oneIn(2) ? high + 1 : Math.max(0, low - 1);
        }
        return low + below(high - low + 1);
    }

    private String text() {
        StringBuilder s = new StringBuilder();
        int n = oneIn(40) ? 0 : oneIn(40) ? 6 : 2 + below(4);
        for (int i = 0; i < n; i++) {
            s.append(join("place", number(1, oneIn(3) ? 999 : 20)));
        }
        List<int[]> ways = new ArrayList<>();
        for (int a = 0; a < n; a++) {
            for (int b = 0; b < a; b++) {
                if (b == a - 1 ? !oneIn(12) : oneIn(3)) {
                    int[] w = oneIn(2) ? new int[] {a, b} : new int[] {b, a};
                    ways.add(w);
                    s.append(join("way", w[0], w[1], number(1, dense ? 4 : oneIn(4) ? 99 : 15)));
                }
            }
        }
        int shuts = ways.isEmpty() ? 0 : oneIn(3) ? below(14) : below(5);
        for (int i = 0; i < shuts; i++) {
            int[] w = ways.get(below(ways.size()));
            int from = base + number(0, oneIn(9) ? 999 - base : range - 1);
            int to = Math.min(999, from + below(oneIn(5) ? 300 : 20));
            boolean round = oneIn(2);
            s.append(join("shut", w[round ? 0 : 1], w[round ? 1 : 0], from, to));
        }
        if (oneIn(2)) {
            s.append(join("moves", number(0, 4), number(0, 4), number(0, 4)));
        }
        if (!oneIn(3)) {
            s.append(join("first", new String[] {"sent", "near", "number"}[below(3)]));
        }
        if (!oneIn(3)) {
            s.append(join("most", number(1, dense ? 60 : 999)));
        }
        return s.toString();
    }

    private String spoiled(String text) {
        StringBuilder s = new StringBuilder(text);
        int n = 1 + below(2);
        for (int i = 0; i < n && s.length() > 0; i++) {
            int at = below(s.length());
            String[] bits = {"place", "way", "shut", "moves", "first", "most", "0", "1", "4", "12",
                "999", "1000", ";", " ", "x", "A", "\t", "\u00e9", "sent", "near", "-1", "; ;"};
            switch (below(4)) {
                case 0:
                    s.deleteCharAt(at);
                    break;
                case 1:
                    s.insert(at, bits[below(bits.length)]);
                    break;
                case 2:
                    s.setLength(at);
                    break;
                default:
                    int line = s.indexOf(";", at);
                    int from = s.lastIndexOf(";", at) + 1;
                    s.insert(from, s.substring(from, line < 0 ? s.length() : line + 1));
            }
        }
        return s.toString();
    }

    private void tell(String text) {
        String t = text.length() > 320 ? text.substring(0, 320) : text;
        int had = want.count(4);
        for (int i = 0; i < t.length(); i += 8) {
            long v = 0;
            for (int j = 0; j < 8; j++) {
                v = v << 8 | (i + j < t.length() ? t.charAt(i + j) : oneIn(2) ? ' ' : below(256));
            }
            same("feed(" + v + ")", got.feed(v), want.feed(v));
        }
        int end = Math.min(320, had + t.length());
        same("end(" + end + ")", got.end(end), want.end(end));
        log.add("[" + t + "]");
        same("system()", got.system(), want.system());
        same("fault()", got.fault(), want.fault());
        for (int what = -1; what <= 8; what++) {
            same("told(" + what + ")", got.told(what), want.told(what));
        }
        places = want.told(0);
    }

    // ---- arguments

    /** A number just out of its bounds, or far out. */
    private int off(int behind) {
        int[] all = {-1, behind, -1, behind, -4, Integer.MIN_VALUE, Integer.MAX_VALUE};
        return all[below(all.length)];
    }

    private int place() {
        return oneIn(50) ? off(places) : below(Math.max(1, places));
    }

    private int minute() {
        switch (below(60)) {
            case 0:
            case 1: return off(1000);
            case 2: return 999;
            case 3: return below(1000);
            default: return base + below(range);
        }
    }

    private int what(int most) {
        return oneIn(60) ? off(most + 1) : below(most + 1);
    }

    private int call() {
        return oneIn(60) ? off(want.count(1)) : below(Math.max(1, want.count(1)));
    }

    private int deal() {
        return oneIn(60) ? off(want.count(2)) : below(Math.max(1, want.count(2)));
    }

    // ---- calls

    private void tellSomething() {
        int p = place();
        int m = minute();
        int c = call();
        switch (below(10)) {
            case 0:
            case 1:
                int v = number(1, oneIn(3) ? 999 : 20);
                same("step(" + p + ", " + m + ", " + v + ")", got.step(p, m, v), want.step(p, m, v));
                break;
            case 2:
            case 3:
                tellCall(p, m);
                break;
            case 4:
                int b = oneIn(4) ? -4 : m;
                same("takeBack(" + c + ", " + b + ")", got.takeBack(c, b), want.takeBack(c, b));
                break;
            default:
                int u = number(1, oneIn(4) ? 99 : 6);
                int known = want.seen(c, p, 0);
                if (known >= 0 && !oneIn(12)) {
                    m = Math.min(999, known + below(dense ? 6 : range));
                    p = p == want.of(c, 0) ? (p + 1) % places : p;
                }
                same("deal(" + p + ", " + c + ", " + m + ", " + u + ")", got.deal(p, c, m, u),
                        want.deal(p, c, m, u));
        }
    }

    private void tellCall(int p, int minute) {
        int m = dense && !oneIn(20) ? base + below(6) : minute;
        int side = what(1);
        int price = number(1, oneIn(4) ? 999 : 60);
        int units = number(1, oneIn(4) ? 99 : 12);
        int kind = what(2);
        int v = kind == 1 ? m + below(oneIn(3) ? 300 : 40) - (oneIn(20) ? 40 : 0)
                : kind == 2 ? number(0, oneIn(3) ? 999 : 8) : below(9) - 4;
        same("call(" + p + ", " + m + ", " + side + ", " + price + ", " + units + ", " + kind + ", "
                + v + ")", got.call(p, m, side, price, units, kind, v),
                want.call(p, m, side, price, units, kind, v));
    }

    private void askNews() {
        int a = place();
        int b = place();
        int m = minute();
        int w = what(2);
        int x = what(3);
        switch (below(9)) {
            case 0:
                same("way(" + a + ", " + b + ")", got.way(a, b), want.way(a, b));
                break;
            case 1:
            case 2:
                same("comes(" + a + ", " + b + ", " + m + ")", got.comes(a, b, m),
                        want.comes(a, b, m));
                break;
            case 3:
                same("knows(" + a + ", " + b + ", " + m + ", " + w + ")", got.knows(a, b, m, w),
                        want.knows(a, b, m, w));
                break;
            case 4:
                same("price(" + a + ", " + m + ")", got.price(a, m), want.price(a, m));
                break;
            case 5:
                same("dearest(" + a + ", " + m + ", " + x + ")", got.dearest(a, m, x),
                        want.dearest(a, m, x));
                break;
            case 6:
                same("waits(" + a + ", " + m + ")", got.waits(a, m), want.waits(a, m));
                break;
            case 7:
                int e = what(1);
                same("book(" + m + ", " + e + ")", got.book(m, e), want.book(m, e));
                break;
            default:
                int n = oneIn(9) ? minute() : m + below(30);
                same("enough(" + a + ", " + m + ", " + n + ")", got.enough(a, m, n),
                        want.enough(a, m, n));
        }
    }

    private void askCalls() {
        int c = call();
        int d = deal();
        int p = place();
        int m = minute();
        int w;
        switch (below(7)) {
            case 0:
                w = what(9);
                same("of(" + c + ", " + w + ")", got.of(c, w), want.of(c, w));
                break;
            case 1:
                same("stands(" + c + ", " + m + ")", got.stands(c, m), want.stands(c, m));
                break;
            case 2:
                w = what(1);
                same("seen(" + c + ", " + p + ", " + w + ")", got.seen(c, p, w), want.seen(c, p, w));
                break;
            case 3:
            case 4:
                w = what(6);
                same("sent(" + d + ", " + w + ")", got.sent(d, w), want.sent(d, w));
                break;
            case 5:
                w = what(2);
                same("empty(" + w + ")", got.empty(w), want.empty(w));
                break;
            default:
                w = what(1);
                if (want.struckDeals() <= 14) {
                    same("undo(" + p + ", " + w + ")", got.undo(p, w), want.undo(p, w));
                }
        }
    }

    private void askGains() {
        int p = place();
        int b = place();
        int m = minute();
        int w;
        boolean sure = oneIn(3);
        switch (below(6)) {
            case 0:
            case 1:
                w = what(1);
                same("gain(" + p + ", " + m + ", " + sure + ", " + w + ")", got.gain(p, m, sure, w),
                        want.gain(p, m, sure, w));
                break;
            case 2:
                int from = oneIn(2) ? m : oneIn(2) ? 0 : Math.max(m, 940);
                same("chance(" + p + ", " + from + ", " + sure + ")", got.chance(p, from, sure),
                        want.chance(p, from, sure));
                break;
            case 3:
                w = what(2);
                same("owes(" + p + ", " + b + ", " + m + ", " + w + ")", got.owes(p, b, m, w),
                        want.owes(p, b, m, w));
                break;
            case 4:
                same("over(" + m + ")", got.over(m), want.over(m));
                break;
            default:
                w = what(1);
                same("peak(" + p + ", " + w + ")", got.peak(p, w), want.peak(p, w));
        }
    }

    private void askWorth() {
        int n = what(12);
        int k = oneIn(60) ? off(13) : below(27) - 13;
        int w = what(12);
        int x = what(1);
        int a = oneIn(2) ? number(0, 999) : below(4);
        int b = oneIn(2) ? number(1, 999) : below(9);
        int m = oneIn(9) ? n + 1 : n < 1 || n > 12 ? off(0) : below(n + 1);
        switch (below(4)) {
            case 0:
                same("odds(" + n + ", " + k + ", " + x + ")", got.odds(n, k, x), want.odds(n, k, x));
                break;
            case 1:
                same("loss(" + n + ", " + w + ", " + x + ")", got.loss(n, w, x), want.loss(n, w, x));
                break;
            case 2:
                same("wide(" + n + ", " + a + ", " + b + ")", got.wide(n, a, b), want.wide(n, a, b));
                break;
            default:
                same("near(" + n + ", " + m + ", " + w + ", " + x + ")", got.near(n, m, w, x),
                        want.near(n, m, w, x));
        }
    }

    private void useSheets() {
        int k = oneIn(40) ? off(4) : below(oneIn(3) ? 4 : 2);
        int lane = oneIn(40) ? off(3) : oneIn(3) ? 2 : 1;
        switch (below(9)) {
            case 0:
                int n = oneIn(6) ? off(41) : below(41);
                same("sheet(" + k + ", " + lane + ", " + n + ")", got.sheet(k, lane, n),
                        want.sheet(k, lane, n));
                break;
            case 1:
            case 2:
            case 3:
                int at = 3 * below(12);
                int[] cells = {place(), minute(), number(1, 99)};
                for (int j = 0; j < 3; j++) {
                    int i = at + j;
                    int v = oneIn(30) ? random.nextInt() : cells[j];
                    same("lay(" + k + ", " + i + ", " + v + ")", got.lay(k, i, v),
                            want.lay(k, i, v));
                }
                break;
            case 4:
                fillSheet(k & 3, lane < 1 ? 1 : lane & 3);
                break;
            case 5:
                int f = oneIn(30) ? random.nextInt() : oneIn(9) ? below(43) - 2 : 3 * below(10);
                int m = oneIn(15) ? off(14) : oneIn(5) ? below(14) : below(4);
                same("read(" + k + ", " + lane + ", " + f + ", " + m + ")", got.read(k, lane, f, m),
                        want.read(k, lane, f, m));
                same("torn()", got.torn(), want.torn());
                break;
            case 6:
                int i = oneIn(12) ? 2 : below(2);
                same("keep(" + i + ")", got.keep(i), want.keep(i));
                break;
            case 7:
                int j = oneIn(12) ? -1 : below(2);
                same("back(" + j + ")", got.back(j), want.back(j));
                break;
            default:
                int w = below(8) - 1;
                same("count(" + w + ")", got.count(w), want.count(w));
        }
    }

    /** A sheet of whole steps, most of them right. */
    private void fillSheet(int k, int lane) {
        int n = below(41);
        same("sheet(" + k + ", " + lane + ", " + n + ")", got.sheet(k, lane, n),
                want.sheet(k, lane, n));
        int steps = below(6);
        for (int i = 0; i < 3 * steps && i < n; i++) {
            int v = i % 3 == 0 ? below(Math.max(1, places)) : oneIn(40) ? 0 : 1 + below(99);
            same("lay(" + k + ", " + i + ", " + v + ")", got.lay(k, i, v), want.lay(k, i, v));
        }
        int m = oneIn(4) ? below(14) : steps;
        same("read(" + k + ", " + lane + ", 0, " + m + ")", got.read(k, lane, 0, m),
                want.read(k, lane, 0, m));
        same("torn()", got.torn(), want.torn());
    }

    private boolean run() {
        boolean few = oneIn(2);
        dense = oneIn(2);
        range = dense ? 20 : 60;
        base = oneIn(4) ? 1000 - range : 0;
        tell(oneIn(3) ? spoiled(text()) : text());
        while (calls < CALLS - 80 && !wrong) {
            if (oneIn(places == 0 ? 5 : few ? 400 : 120)) {
                dense = oneIn(2);
                range = dense ? 20 : oneIn(4) ? 200 : 60;
                base = oneIn(4) ? 1000 - range : 0;
                tell(oneIn(2) ? spoiled(text()) : text());
            }
            switch (below(10)) {
                case 0:
                case 1:
                case 2:
                    tellSomething();
                    break;
                case 3:
                    askNews();
                    break;
                case 4:
                    askWorth();
                    break;
                case 5:
                    useSheets();
                    break;
                case 6:
                case 7:
                    askCalls();
                    break;
                default:
                    askGains();
            }
        }
        return !wrong;
    }

    public static void main(String[] args) {
        int calls = 0;
        for (int seed = 1; seed <= RUNS; seed++) {
            ModelTest test = new ModelTest(seed);
            if (!test.run()) {
                System.out.println("run " + seed + ":");
                test.log.forEach(System.out::println);
                System.exit(1);
            }
            calls += test.calls;
        }
        System.out.println(RUNS + " runs, " + calls + " calls: all answers are as the model's");
    }
}
