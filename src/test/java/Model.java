import java.util.ArrayList;
import java.util.Arrays;
import java.util.HashMap;
import java.util.List;
import java.util.Map;

/**
 * The document done over, as slowly and plainly as may be, by another hand than the class: minute
 * by minute, unit by unit, subset by subset. The class is compared with it.
 */
final class Model {
    static final int BAD = -1, STATE = -2, FULL = -3, NONE = -4, WORST = -1000000;

    static final class Broken extends RuntimeException {
        private static final long serialVersionUID = 1L;
        final int fault;
        final int place;

        Broken(int fault, int place) {
            super(null, null, false, false);
            this.fault = fault;
            this.place = place;
        }
    }

    /** All that a text tells. */
    static final class Told {
        final List<Integer> prices = new ArrayList<>();
        final List<int[]> ways = new ArrayList<>();
        final List<int[]> shuts = new ArrayList<>();
        int[] moves;
        Integer rule;
        Integer most;
        int lines;

        int[] wayOf(int a, int b) {
            for (int[] w : ways) {
                if (w[0] == a && w[1] == b || w[0] == b && w[1] == a) {
                    return w;
                }
            }
            return null;
        }

        boolean shut(int a, int b, int minute) {
            for (int[] s : shuts) {
                boolean same = s[0] == a && s[1] == b || s[0] == b && s[1] == a;
                if (same && s[2] <= minute && minute <= s[3]) {
                    return true;
                }
            }
            return false;
        }
    }

    private byte[] tape = new byte[0];
    private Told told = new Told();
    private int fault;
    private int torn;
    private List<int[]> steps = new ArrayList<>();
    private List<int[]> calls = new ArrayList<>();
    private List<int[]> deals = new ArrayList<>();
    private final List<List<List<int[]>>> images = new ArrayList<>(Arrays.asList(null, null));
    private final int[][] sheets = new int[4][];
    private final int[] lanes = new int[4];
    private final Map<Integer, int[]> comesCache = new HashMap<>();

    // ---- the text

    int feed(long v) {
        if (tape.length + 8 > 320) {
            return FULL;
        }
        int had = tape.length;
        tape = Arrays.copyOf(tape, had + 8);
        for (int i = 7; i >= 0; i--) {
            tape[had + i] = (byte) v;
            v >>= 8;
        }
        return tape.length;
    }

    int end(int n) {
        int had = tape.length;
        if (n < 0 || n > had) {
            return BAD;
        }
        tape = Arrays.copyOf(tape, n);
        return had;
    }

    private int at;

    /** A token as text; "" at the end. The place where it begins is left in tokenAt. */
    private int tokenAt;

    private String token() {
        while (at < tape.length && tape[at] == 32) {
            at++;
        }
        tokenAt = at;
        if (at == tape.length) {
            return "";
        }
        StringBuilder s = new StringBuilder();
        char c = (char) (tape[at] & 255);
        if (c == ';') {
            at++;
            return ";";
        }
        if (c >= 'a' && c <= 'z') {
            while (at < tape.length && tape[at] >= 'a' && tape[at] <= 'z') {
                s.append((char) tape[at++]);
            }
            return s.toString();
        }
        if (c >= '0' && c <= '9') {
            while (at < tape.length && tape[at] >= '0' && tape[at] <= '9') {
                s.append((char) tape[at++]);
            }
            if (s.length() > 3) {
                throw new Broken(1, tokenAt);
            }
            return s.toString();
        }
        throw new Broken(1, tokenAt);
    }

    private int number(int low, int high) {
        String s = token();
        if (s.isEmpty() || !Character.isDigit(s.charAt(0))) {
            throw new Broken(2, tokenAt);
        }
        int v = Integer.parseInt(s);
        if (v < low || v > high) {
            throw new Broken(3, tokenAt);
        }
        return v;
    }

    private void line(Told t, String name) {
        int nameAt = tokenAt;
        int a;
        int b;
        switch (name) {
            case "place":
                if (t.prices.size() == 5) {
                    throw new Broken(5, nameAt);
                }
                t.prices.add(number(1, 999));
                break;
            case "way":
                a = number(0, t.prices.size() - 1);
                b = number(0, t.prices.size() - 1);
                if (a == b) {
                    throw new Broken(3, tokenAt);
                }
                if (t.wayOf(a, b) != null) {
                    throw new Broken(4, tokenAt);
                }
                t.ways.add(new int[] {a, b, number(1, 99)});
                break;
            case "shut":
                if (t.shuts.size() == 12) {
                    throw new Broken(5, nameAt);
                }
                a = number(0, t.prices.size() - 1);
                b = number(0, t.prices.size() - 1);
                if (t.wayOf(a, b) == null) {
                    throw new Broken(3, tokenAt);
                }
                int from = number(0, 999);
                t.shuts.add(new int[] {a, b, from, number(from, 999)});
                break;
            case "moves":
                if (t.moves != null) {
                    throw new Broken(4, nameAt);
                }
                t.moves = new int[] {number(0, 4), number(0, 4), number(0, 4)};
                if (t.moves[0] == 0 && t.moves[1] == 0 && t.moves[2] == 0) {
                    throw new Broken(3, tokenAt);
                }
                break;
            case "first":
                if (t.rule != null) {
                    throw new Broken(4, nameAt);
                }
                t.rule = Arrays.asList("sent", "near", "number").indexOf(token());
                if (t.rule < 0) {
                    throw new Broken(2, tokenAt);
                }
                break;
            case "most":
                if (t.most != null) {
                    throw new Broken(4, nameAt);
                }
                t.most = number(1, 999);
                break;
            default:
                throw new Broken(2, nameAt);
        }
        if (!token().equals(";")) {
            throw new Broken(2, tokenAt);
        }
    }

    int system() {
        Told t = new Told();
        at = 0;
        fault = 0;
        try {
            for (String name = token(); !name.isEmpty(); name = token()) {
                line(t, name);
                t.lines++;
            }
        } catch (Broken e) {
            fault = e.fault;
            tape = new byte[0];
            return -10 - e.place;
        }
        tape = new byte[0];
        told = t;
        steps = new ArrayList<>();
        calls = new ArrayList<>();
        deals = new ArrayList<>();
        images.set(0, null);
        images.set(1, null);
        comesCache.clear();
        return t.lines;
    }

    int fault() {
        return fault;
    }

    private int[] moves() {
        return told.moves == null ? new int[] {1, 2, 1} : told.moves;
    }

    private int most() {
        return told.most == null ? 999 : told.most;
    }

    private int rule() {
        return told.rule == null ? 0 : told.rule;
    }

    private int places() {
        return told.prices.size();
    }

    int told(int what) {
        int[] all = {places(), told.ways.size(), told.shuts.size(), moves()[0], moves()[1],
            moves()[2], rule(), most()};
        return what < 0 || what > 7 ? BAD : all[what];
    }

    private boolean noPlace(int p) {
        return p < 0 || p >= places();
    }

    private static boolean noMinute(int m) {
        return m < 0 || m > 999;
    }

    int way(int a, int b) {
        if (noPlace(a) || noPlace(b) || a == b) {
            return BAD;
        }
        int[] w = told.wayOf(a, b);
        return w == null ? NONE : w[2];
    }

    // ---- news, prices

    /** When what leaves a at a minute is at each place: every minute every place sends it on. */
    private int[] reach(int a, int minute) {
        int key = a * 100000 + minute;
        int[] r = comesCache.get(key);
        if (r != null) {
            return r;
        }
        int[] reach = new int[places()];
        Arrays.fill(reach, 99999);
        reach[a] = minute;
        int quiet = 0;
        for (int t = minute; t <= 9999 && quiet < 1200; t++) {
            quiet++;
            for (int[] w : told.ways) {
                for (int dir = 0; dir < 2; dir++) {
                    int x = w[dir];
                    int y = w[1 - dir];
                    if (reach[x] <= t && !told.shut(x, y, t) && t + w[2] < reach[y]) {
                        reach[y] = t + w[2];
                        quiet = 0;
                    }
                }
            }
            boolean all = true;
            for (int v : reach) {
                all &= v <= t;
            }
            if (all) {
                break;
            }
        }
        comesCache.put(key, reach);
        return reach;
    }

    private int come(int a, int b, int minute) {
        int t = reach(a, minute)[b];
        return t > 9999 ? NONE : t;
    }

    int comes(int a, int b, int minute) {
        return noPlace(a) || noPlace(b) || noMinute(minute) ? BAD : come(a, b, minute);
    }

    private boolean cameBy(int a, int b, int left, int t) {
        int c = come(a, b, left);
        return c != NONE && c <= t;
    }

    private int latest(int b, int a, int t) {
        int best = NONE;
        for (int m = 0; m <= t; m++) {
            if (cameBy(a, b, m, t)) {
                best = m;
            }
        }
        return best;
    }

    int knows(int b, int a, int minute, int what) {
        if (noPlace(a) || noPlace(b) || noMinute(minute) || what < 0 || what > 2) {
            return BAD;
        }
        int m = latest(b, a, minute);
        if (m == NONE) {
            return NONE;
        }
        return what == 0 ? m : what == 1 ? minute - m : price(a, m);
    }

    int step(int p, int minute, int v) {
        if (noPlace(p) || noMinute(minute) || v < 1 || v > 999) {
            return BAD;
        }
        if (steps.size() == 24) {
            return FULL;
        }
        steps.add(new int[] {p, minute, v});
        return steps.size();
    }

    int price(int p, int minute) {
        if (noPlace(p) || noMinute(minute)) {
            return BAD;
        }
        return line(p)[minute];
    }

    /** The prices of a place in all minutes: each step, by minutes, holds from its own on. */
    private int[] line(int p) {
        int[] line = new int[1000];
        Arrays.fill(line, told.prices.get(p));
        List<int[]> sorted = new ArrayList<>(steps);
        sorted.sort((x, y) -> x[1] - y[1]);
        for (int[] s : sorted) {
            if (s[0] == p) {
                Arrays.fill(line, s[1], 1000, s[2]);
            }
        }
        return line;
    }

    int dearest(int p, int minute, int what) {
        if (noMinute(minute) || what < 0 || what > 3 || what > 1 && noPlace(p)) {
            return BAD;
        }
        int best = NONE;
        int top = 0;
        for (int a = 0; a < places(); a++) {
            int v = what < 2 ? price(a, minute) : knows(p, a, minute, 2);
            if (v == NONE) {
                continue;
            }
            int signed = what % 2 == 0 ? v : -v;
            if (best == NONE || signed > top) {
                best = a;
                top = signed;
            }
        }
        return best;
    }

    // ---- calls, deals: call rows are place, minute, side, price, units, kind, v, back

    int call(int p, int minute, int side, int price, int units, int kind, int v) {
        if (noPlace(p) || noMinute(minute) || side < 0 || side > 1 || price < 1 || price > 999
                || units < 1 || units > 99 || kind < 0 || kind > 2) {
            return BAD;
        }
        if (kind == 1 && (noMinute(v) || v < minute) || kind == 2 && (v < 0 || v > 999)) {
            return BAD;
        }
        if (calls.size() == 12) {
            return FULL;
        }
        calls.add(new int[] {p, minute, side, price, units, kind, kind == 0 ? 0 : v, NONE});
        return calls.size() - 1;
    }

    private boolean noCall(int c) {
        return c < 0 || c >= calls.size();
    }

    int takeBack(int c, int minute) {
        if (noCall(c) || minute != NONE && (noMinute(minute) || minute < calls.get(c)[1])) {
            return BAD;
        }
        int[] row = calls.get(c).clone();
        int was = row[7];
        row[7] = minute;
        calls.set(c, row);
        return was;
    }

    /** Which minutes a call stands in, told one after another. */
    private boolean[] up(int c) {
        int[] k = calls.get(c);
        boolean[] up = new boolean[1000];
        boolean fallen = false;
        int[] line = line(k[0]);
        for (int m = k[1]; m <= 999; m++) {
            if (k[5] == 2 && m > k[1] && Math.abs(line[m] - line[k[1]]) > k[6]) {
                fallen = true;
            }
            boolean late = k[5] == 1 && m > k[6];
            boolean back = k[7] != NONE && m >= k[7];
            up[m] = !fallen && !late && !back;
        }
        return up;
    }

    private final Map<Integer, boolean[]> upCache = new HashMap<>();

    private boolean isUp(int c, int m) {
        return m >= 0 && m <= 999 && upCache.computeIfAbsent(c, this::up)[m];
    }

    int stands(int c, int minute) {
        if (noCall(c) || noMinute(minute)) {
            return BAD;
        }
        upCache.clear();
        return isUp(c, minute) ? 1 : 0;
    }

    int seen(int c, int p, int what) {
        if (noCall(c) || noPlace(p) || what < 0 || what > 1) {
            return BAD;
        }
        int[] k = calls.get(c);
        int left = what == 0 ? k[1] : k[7];
        return left == NONE ? NONE : come(k[0], p, left);
    }

    int deal(int p, int c, int minute, int units) {
        if (noPlace(p) || noCall(c) || noMinute(minute) || units < 1 || units > 99
                || calls.get(c)[0] == p) {
            return BAD;
        }
        if (!cameBy(calls.get(c)[0], p, calls.get(c)[1], minute)) {
            return STATE;
        }
        if (deals.size() == 24) {
            return FULL;
        }
        deals.add(new int[] {p, c, minute, units});
        return deals.size() - 1;
    }

    private int dealComes(int d) {
        int[] k = deals.get(d);
        return come(k[0], calls.get(k[1])[0], k[2]);
    }

    /** Units struck of each deal. */
    private int[] struck() {
        upCache.clear();
        int[] struck = new int[deals.size()];
        for (int c = 0; c < calls.size(); c++) {
            List<Integer> mine = new ArrayList<>();
            for (int d = 0; d < deals.size(); d++) {
                if (deals.get(d)[1] == c && dealComes(d) != NONE) {
                    mine.add(d);
                }
            }
            mine.sort((x, y) -> {
                if (dealComes(x) != dealComes(y)) {
                    return dealComes(x) - dealComes(y);
                }
                int by = 0;
                if (rule() == 0) {
                    by = deals.get(x)[2] - deals.get(y)[2];
                } else if (rule() == 1) {
                    by = dealComes(x) - deals.get(x)[2] - (dealComes(y) - deals.get(y)[2]);
                }
                return by != 0 ? by : x - y;
            });
            int left = calls.get(c)[4];
            for (int d : mine) {
                if (isUp(c, dealComes(d))) {
                    struck[d] = Math.min(left, deals.get(d)[3]);
                    left -= struck[d];
                }
            }
        }
        return struck;
    }

    int of(int c, int what) {
        if (noCall(c) || what < 0 || what > 9) {
            return BAD;
        }
        if (what < 7) {
            return calls.get(c)[what];
        }
        int[] struck = struck();
        if (what == 7) {
            int last = calls.get(c)[1] - 1;
            for (int m = 0; m <= 999; m++) {
                last = isUp(c, m) ? m : last;
            }
            return last;
        }
        int sum = 0;
        int when = 0;
        for (int d = 0; d < deals.size(); d++) {
            if (deals.get(d)[1] == c && struck[d] > 0) {
                sum += struck[d];
                when = Math.max(when, dealComes(d));
            }
        }
        return what == 8 ? sum : sum == calls.get(c)[4] ? when : NONE;
    }

    int sent(int d, int what) {
        if (d < 0 || d >= deals.size() || what < 0 || what > 6) {
            return BAD;
        }
        if (what < 4) {
            return deals.get(d)[what];
        }
        int comes = dealComes(d);
        if (what == 4 || what == 6 && comes == NONE) {
            return comes;
        }
        int[] k = deals.get(d);
        return what == 5 ? struck()[d] : come(calls.get(k[1])[0], k[0], comes);
    }

    int empty(int what) {
        if (what < 0 || what > 2) {
            return BAD;
        }
        int[] struck = struck();
        int bits = 0;
        for (int d = 0; d < deals.size(); d++) {
            int[] k = deals.get(d);
            boolean in = struck[d] == 0;
            if (what == 1) {
                in &= isUp(k[1], dealComes(d));
            }
            if (what == 2) {
                int back = calls.get(k[1])[7];
                in &= back != NONE && cameBy(calls.get(k[1])[0], k[0], back, k[2]);
            }
            bits += in ? 1 << d : 0;
        }
        return bits;
    }

    private int pays(int p, int d, int[] struck) {
        int[] k = deals.get(d);
        int[] c = calls.get(k[1]);
        int buyer = c[2] == 0 ? c[0] : k[0];
        int seller = c[2] == 0 ? k[0] : c[0];
        int sum = c[3] * struck[d];
        return (buyer == p ? sum : 0) - (seller == p ? sum : 0);
    }

    /** Every set of struck deals is tried, by number: the first of the fewest is it. */
    int undo(int p, int what) {
        if (noPlace(p) || what < 0 || what > 1) {
            return BAD;
        }
        int[] struck = struck();
        List<Integer> can = new ArrayList<>();
        for (int d = 0; d < deals.size(); d++) {
            if (struck[d] > 0) {
                can.add(d);
            }
        }
        int fewest = 99;
        int best = 0;
        for (int set = 0; set < 1 << can.size(); set++) {
            if (Integer.bitCount(set) >= fewest) {
                continue;
            }
            int owes = 0;
            int bits = 0;
            for (int i = 0; i < can.size(); i++) {
                if ((set >> i & 1) == 0) {
                    owes += pays(p, can.get(i), struck);
                } else {
                    bits |= 1 << can.get(i);
                }
            }
            if (owes <= most()) {
                fewest = Integer.bitCount(set);
                best = bits;
            }
        }
        return what == 0 ? fewest : best;
    }

    int struckDeals() {
        int n = 0;
        for (int v : struck()) {
            n += v > 0 ? 1 : 0;
        }
        return n;
    }

    // ---- what it brings

    int gain(int p, int minute, boolean sure, int what) {
        if (noPlace(p) || noMinute(minute) || what < 0 || what > 1) {
            return BAD;
        }
        List<Integer> sell = new ArrayList<>();
        List<Integer> buy = new ArrayList<>();
        for (int[] k : calls) {
            int arrives = come(p, k[0], minute);
            boolean in = k[0] != p && arrives != NONE && cameBy(k[0], p, k[1], minute);
            in &= !(k[7] != NONE && cameBy(k[0], p, k[7], minute));
            in &= !(k[5] == 1 && k[6] < arrives);
            in &= !sure || k[5] == 1;
            for (int i = 0; in && i < k[4]; i++) {
                (k[2] == 0 ? buy : sell).add(k[3]);
            }
        }
        sell.sort((x, y) -> x - y);
        buy.sort((x, y) -> y - x);
        int brings = 0;
        int units = 0;
        for (int i = 0; i < sell.size() && i < buy.size(); i++) {
            if (buy.get(i) > sell.get(i)) {
                brings += buy.get(i) - sell.get(i);
                units++;
            }
        }
        return what == 0 ? brings : units;
    }

    int chance(int p, int minute, boolean sure) {
        if (noPlace(p) || noMinute(minute)) {
            return BAD;
        }
        for (int m = minute; m <= 999; m++) {
            if (gain(p, m, sure, 0) > 0) {
                return m;
            }
        }
        return NONE;
    }

    int owes(int p, int b, int minute, int what) {
        if (noPlace(p) || noMinute(minute) || what < 0 || what > 2 || what == 1 && noPlace(b)) {
            return WORST;
        }
        int[] struck = struck();
        int sum = 0;
        for (int d = 0; d < deals.size(); d++) {
            int comes = dealComes(d);
            boolean in = comes != NONE && comes <= minute;
            if (what == 1) {
                in &= comes != NONE && cameBy(calls.get(deals.get(d)[1])[0], b, comes, minute);
            }
            sum += in ? pays(p, d, struck) : 0;
        }
        for (int c = 0; what == 2 && c < calls.size(); c++) {
            int[] k = calls.get(c);
            int left = k[4];
            for (int d = 0; d < deals.size(); d++) {
                boolean in = deals.get(d)[1] == c && dealComes(d) <= minute;
                left -= in ? struck[d] : 0;
            }
            sum += k[0] == p && k[2] == 0 && isUp(c, minute) ? left * k[3] : 0;
        }
        return sum;
    }

    int over(int minute) {
        if (noMinute(minute)) {
            return BAD;
        }
        int bits = 0;
        for (int p = 0; p < places(); p++) {
            bits += owes(p, 0, minute, 2) > most() ? 1 << p : 0;
        }
        return bits;
    }

    int peak(int p, int what) {
        if (noPlace(p) || what < 0 || what > 1) {
            return WORST;
        }
        int[] struck = struck();
        int best = 0;
        int top = Integer.MIN_VALUE;
        for (int m = 0; m <= 999; m++) {
            int sum = 0;
            for (int d = 0; d < deals.size(); d++) {
                sum += dealComes(d) <= m ? pays(p, d, struck) : 0;
            }
            if (sum > top) {
                top = sum;
                best = m;
            }
        }
        return what == 0 ? best : top;
    }

    // ---- the common book

    int waits(int p, int minute) {
        if (noPlace(p) || noMinute(minute)) {
            return BAD;
        }
        int most = 0;
        for (int a = 0; a < places(); a++) {
            int t = come(a, p, minute);
            if (t == NONE) {
                return NONE;
            }
            most = Math.max(most, t - minute);
        }
        return most;
    }

    int book(int minute, int what) {
        if (noMinute(minute) || what < 0 || what > 1) {
            return BAD;
        }
        int best = NONE;
        int least = NONE;
        for (int p = places() - 1; p >= 0; p--) {
            int w = waits(p, minute);
            if (w != NONE && (best == NONE || w <= least)) {
                best = p;
                least = w;
            }
        }
        return what == 0 ? best : least;
    }

    int enough(int p, int a, int b) {
        if (noPlace(p) || noMinute(a) || noMinute(b) || b < a) {
            return BAD;
        }
        int most = 0;
        for (int m = a; m <= b; m++) {
            int w = waits(p, m);
            if (w == NONE) {
                return NONE;
            }
            most = Math.max(most, w);
        }
        return most;
    }

    // ---- how far apart

    private static java.math.BigInteger big(long v) {
        return java.math.BigInteger.valueOf(v);
    }

    /** How many of all courses of n minutes end k off; by the last minute's move. */
    private java.math.BigInteger courses(int n, int k) {
        if (n == 0) {
            return big(k == 0 ? 1 : 0);
        }
        if (Math.abs(k) > n) {
            return big(0);
        }
        int key = n * 1000 + k + 100;
        java.math.BigInteger known = coursesCache.get(key);
        if (known == null) {
            known = big(moves()[0]).multiply(courses(n - 1, k + 1))
                    .add(big(moves()[1]).multiply(courses(n - 1, k)))
                    .add(big(moves()[2]).multiply(courses(n - 1, k - 1)));
            coursesCache.put(key, known);
        }
        return known;
    }

    private final Map<Integer, java.math.BigInteger> coursesCache = new HashMap<>();

    private java.math.BigInteger all(int n) {
        return big(moves()[0] + moves()[1] + moves()[2]).pow(n);
    }

    private static long part(java.math.BigInteger a, java.math.BigInteger b, int what) {
        java.math.BigInteger g = a.gcd(b);
        return (what == 0 ? a : b).divide(g).longValueExact();
    }

    private java.math.BigInteger lossOf(int n, int w) {
        coursesCache.clear();
        java.math.BigInteger sum = big(0);
        for (int k = -n; k <= n; k++) {
            sum = sum.add(courses(n, k).multiply(big(Math.max(0, Math.abs(k) - w))));
        }
        return sum;
    }

    long odds(int n, int k, int what) {
        if (n < 0 || n > 12 || k < -12 || k > 12 || what < 0 || what > 1) {
            return BAD;
        }
        coursesCache.clear();
        return part(courses(n, k), all(n), what);
    }

    long loss(int n, int w, int what) {
        if (n < 0 || n > 12 || w < 0 || w > 12 || what < 0 || what > 1) {
            return BAD;
        }
        return part(lossOf(n, w), all(n), what);
    }

    int wide(int n, int a, int b) {
        if (n < 0 || n > 12 || a < 0 || a > 999 || b < 1 || b > 999) {
            return BAD;
        }
        for (int w = 0; w <= 12; w++) {
            if (lossOf(n, w).multiply(big(b)).compareTo(all(n).multiply(big(a))) <= 0) {
                return w;
            }
        }
        return NONE;
    }

    long near(int n, int m, int w, int what) {
        if (n < 0 || n > 12 || m < 0 || m > n || w < 0 || w > 12 || what < 0 || what > 1) {
            return BAD;
        }
        java.math.BigInteger top =
                lossOf(n, w).multiply(all(m)).subtract(lossOf(m, w).multiply(all(n)));
        return part(top, all(n).multiply(all(m)), what);
    }

    // ---- images, sheets

    int keep(int k) {
        if (k < 0 || k > 1) {
            return BAD;
        }
        int was = images.get(k) == null ? 0 : 1;
        images.set(k, List.of(List.copyOf(steps), List.copyOf(calls), List.copyOf(deals)));
        return was;
    }

    int back(int k) {
        if (k < 0 || k > 1) {
            return BAD;
        }
        if (images.get(k) == null) {
            return STATE;
        }
        steps = new ArrayList<>(images.get(k).get(0));
        calls = new ArrayList<>(images.get(k).get(1));
        deals = new ArrayList<>(images.get(k).get(2));
        return calls.size();
    }

    int sheet(int k, int lane, int n) {
        if (k < 0 || k > 3 || lane < 0 || lane > 2 || n > 40) {
            return BAD;
        }
        if (n < 0) {
            return -14;
        }
        sheets[k] = new int[n];
        lanes[k] = lane;
        return 1;
    }

    int lay(int k, int i, int v) {
        if (k < 0 || k > 3) {
            return BAD;
        }
        if (sheets[k] == null) {
            return -11;
        }
        if (i < 0 || i >= sheets[k].length) {
            return -12;
        }
        int bits = new int[] {8, 16, 32}[lanes[k]];
        sheets[k][i] = v << 32 - bits >> 32 - bits;
        return 1;
    }

    int read(int k, int lane, int f, int n) {
        if (k < 0 || k > 3 || lane < 0 || lane > 2 || n < 0 || n > 13) {
            return BAD;
        }
        int found = 0;
        List<int[]> had = new ArrayList<>(steps);
        int came = 0;
        reading:
        for (int i = 0; i < n; i++) {
            int[] cells = new int[3];
            for (int j = 0; j < 3; j++) {
                long at = (long) f + 3 * i + j;
                if (sheets[k] == null) {
                    found = 1;
                    break reading;
                }
                if (lanes[k] != lane) {
                    found = 3;
                    break reading;
                }
                if (at < 0 || at >= sheets[k].length) {
                    found = 2;
                    break reading;
                }
                cells[j] = sheets[k][(int) at];
            }
            int answer = step(cells[0], cells[1], cells[2]);
            if (answer == BAD || answer == FULL) {
                steps = had;
                return answer == FULL ? FULL : -20 - i;
            }
            came++;
        }
        torn = found;
        return came;
    }

    int torn() {
        return torn;
    }

    int count(int what) {
        switch (what) {
            case 0: return steps.size();
            case 1: return calls.size();
            case 2: return deals.size();
            case 3: return (images.get(0) == null ? 0 : 1) + (images.get(1) == null ? 0 : 1);
            case 4: return tape.length;
            case 5: return sheets[0] == null ? NONE : sheets[0].length;
            default: return BAD;
        }
    }
}
