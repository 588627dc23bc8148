import java.util.Arrays;

/**
 * Prices nine minutes old: what places know of each other's prices when news is under way for
 * minutes, and what comes of calls and deals that are sent on such news.
 */
public final class LatePrices {
    public static final int BAD = -1, STATE = -2, FULL = -3, NONE = -4;

    private static final int LAST_MINUTE = 999;
    private static final int HIGHEST = 999;
    private static final int MOST_UNITS = 99;
    /** News that would come above 9999 never comes: this number stands for that. */
    private static final int NEVER = 10000;
    /** OWES may be below 0, so that its BAD must lie out of the way. */
    private static final int BAD_DEBT = -1000000;

    private static final int PLACES = 5;
    private static final int SHUTS = 12;
    private static final int STEPS = 24;
    private static final int CALLS = 12;
    private static final int DEALS = 24;
    private static final int IMAGES = 2;
    private static final int SHEETS = 4;
    private static final int CELLS = 40;
    private static final int LANES = 3;
    private static final int STEPS_READ = 13;
    private static final int TAPE = 320;
    private static final int FARTHEST = 12;
    private static final int MOVES = 3;
    private static final int LONGEST_WAY = 99;

    private static final int FIRST_SENT = 0, FIRST_NEAR = 1, FIRST_NUMBER = 2;
    private static final int BUY = 0, SELL = 1;
    private static final int PLAIN = 0, TIMED = 1, UNLESS = 2;

    /** Columns of STEPS. */
    private static final int STEP_PLACE = 0, STEP_MINUTE = 1, STEP_PRICE = 2, STEP_WIDTH = 3;
    /** Columns of CALLS: those below CALL_BACK are numbered as of() asks for them. */
    private static final int CALL_PLACE = 0, CALL_MINUTE = 1, CALL_SIDE = 2, CALL_PRICE = 3,
            CALL_UNITS = 4, CALL_KIND = 5, CALL_V = 6, CALL_BACK = 7, CALL_WIDTH = 8;
    /** Columns of DEALS: those below DEAL_COMES are numbered as sent() asks for them. */
    private static final int DEAL_PLACE = 0, DEAL_CALL = 1, DEAL_MINUTE = 2, DEAL_UNITS = 3,
            DEAL_COMES = 4, DEAL_WIDTH = 5;

    private static final int FAULT_TOKEN = 1, FAULT_ORDER = 2, FAULT_BOUNDS = 3, FAULT_TWICE = 4,
            FAULT_MANY = 5;
    private static final int FAULT_NULL = 1, FAULT_INDEX = 2, FAULT_CAST = 3, FAULT_SIZE = 4;

    private final Tape tape = new Tape();
    private final Plan plan = new Plan();
    private final Plan draft = new Plan();
    private final Reader reader = new Reader(tape, draft);
    private final News news = new News(plan);
    private final Ledger ledger = new Ledger(plan);
    private final Ledger[] images = new Ledger[IMAGES];
    private final Strikes strikes = new Strikes(plan, news, ledger);
    private final Gains gains = new Gains(news, ledger);
    private final Waits waiting = new Waits(plan, news);
    private final Worth worth = new Worth(plan);
    private final Sheet[] sheets = new Sheet[SHEETS];
    private int fault;
    private int torn;

    public LatePrices() {
        for (int k = 0; k < IMAGES; k++) {
            images[k] = new Ledger(plan);
        }
        for (int k = 0; k < SHEETS; k++) {
            sheets[k] = new Sheet();
        }
    }

    // ---- the text

    public int feed(long v) {
        return tape.push(v) ? tape.length : FULL;
    }

    public int end(int n) {
        int had = tape.length;
        if (!within(n, 0, had)) {
            return BAD;
        }
        tape.length = n;
        return had;
    }

    public int system() {
        int lines = reader.parse();
        tape.length = 0;
        fault = reader.fault;
        if (fault != 0) {
            return -10 - reader.faultPlace;
        }
        plan.become(draft);
        ledger.clear();
        for (int k = 0; k < IMAGES; k++) {
            images[k].kept = false;
        }
        return lines;
    }

    public int fault() {
        return fault;
    }

    public int told(int what) {
        switch (what) {
            case 0: return plan.places;
            case 1: return plan.ways;
            case 2: return plan.shuts;
            case 3:
            case 4:
            case 5: return plan.moves[what - 3];
            case 6: return plan.rule;
            case 7: return plan.most;
            default: return BAD;
        }
    }

    public int way(int a, int b) {
        if (!isPlace(a) || !isPlace(b) || a == b) {
            return BAD;
        }
        int minutes = plan.minutes[Plan.pair(a, b)];
        return minutes > 0 ? minutes : NONE;
    }

    // ---- news, prices

    public int comes(int a, int b, int minute) {
        if (!isPlace(a) || !isPlace(b) || !isMinute(minute)) {
            return BAD;
        }
        return orNone(news.arrival(a, b, minute));
    }

    public int knows(int b, int a, int minute, int what) {
        if (!isPlace(b) || !isPlace(a) || !isMinute(minute) || !within(what, 0, 2)) {
            return BAD;
        }
        int latest = news.latest(a, b, minute);
        if (latest < 0) {
            return NONE;
        }
        return what == 0 ? latest : what == 1 ? minute - latest : ledger.priceAt(a, latest);
    }

    public int step(int p, int minute, int v) {
        if (!isPlace(p) || !isMinute(minute) || !within(v, 1, HIGHEST)) {
            return BAD;
        }
        int s = ledger.steps.grow();
        if (s < 0) {
            return FULL;
        }
        ledger.steps.put(s, STEP_PLACE, p);
        ledger.steps.put(s, STEP_MINUTE, minute);
        ledger.steps.put(s, STEP_PRICE, v);
        return ledger.steps.size;
    }

    public int price(int p, int minute) {
        return isPlace(p) && isMinute(minute) ? ledger.priceAt(p, minute) : BAD;
    }

    public int dearest(int p, int minute, int what) {
        if (!isMinute(minute) || !within(what, 0, 3) || what >= 2 && !isPlace(p)) {
            return BAD;
        }
        if (what >= 2) {
            news.gather(p, minute);
        } else {
            news.gatherAtOnce(minute);
        }
        boolean lowest = what == 1 || what == 3;
        int best = NONE;
        int bestPrice = 0;
        for (int a = 0; a < plan.places; a++) {
            if (news.leaves[a] < 0) {
                continue;
            }
            int price = ledger.priceAt(a, news.leaves[a]);
            if (best < 0 || (lowest ? price < bestPrice : price > bestPrice)) {
                best = a;
                bestPrice = price;
            }
        }
        return best;
    }

    // ---- calls, deals

    public int call(int p, int minute, int side, int price, int units, int kind, int v) {
        if (!isPlace(p) || !isMinute(minute) || !within(side, BUY, SELL)
                || !within(price, 1, HIGHEST) || !within(units, 1, MOST_UNITS)
                || !within(kind, PLAIN, UNLESS)) {
            return BAD;
        }
        int lowest = kind == TIMED ? minute : 0;
        if (kind != PLAIN && !within(v, lowest, kind == TIMED ? LAST_MINUTE : HIGHEST)) {
            return BAD;
        }
        Rows calls = ledger.calls;
        int c = calls.grow();
        if (c < 0) {
            return FULL;
        }
        calls.put(c, CALL_PLACE, p);
        calls.put(c, CALL_MINUTE, minute);
        calls.put(c, CALL_SIDE, side);
        calls.put(c, CALL_PRICE, price);
        calls.put(c, CALL_UNITS, units);
        calls.put(c, CALL_KIND, kind);
        calls.put(c, CALL_V, kind == PLAIN ? 0 : v);
        calls.put(c, CALL_BACK, NONE);
        return c;
    }

    public int takeBack(int c, int minute) {
        if (!isCall(c)) {
            return BAD;
        }
        if (minute != NONE && !within(minute, ledger.calls.at(c, CALL_MINUTE), LAST_MINUTE)) {
            return BAD;
        }
        int was = ledger.calls.at(c, CALL_BACK);
        ledger.calls.put(c, CALL_BACK, minute);
        return was;
    }

    public int of(int c, int what) {
        if (!isCall(c) || !within(what, 0, 9)) {
            return BAD;
        }
        if (what < CALL_BACK) {
            return ledger.calls.at(c, what);
        }
        if (what == 7) {
            return ledger.lastMinute(c);
        }
        strikes.settle();
        return what == 8 ? ledger.calls.at(c, CALL_UNITS) - strikes.left[c] : strikes.fullAt[c];
    }

    public int stands(int c, int minute) {
        if (!isCall(c) || !isMinute(minute)) {
            return BAD;
        }
        return ledger.isUp(c, minute) ? 1 : 0;
    }

    public int seen(int c, int p, int what) {
        if (!isCall(c) || !isPlace(p) || !within(what, 0, 1)) {
            return BAD;
        }
        int left = ledger.calls.at(c, what == 0 ? CALL_MINUTE : CALL_BACK);
        return left < 0 ? NONE : orNone(news.arrival(ledger.calls.at(c, CALL_PLACE), p, left));
    }

    public int deal(int p, int c, int minute, int units) {
        if (!isPlace(p) || !isCall(c) || !isMinute(minute) || !within(units, 1, MOST_UNITS)) {
            return BAD;
        }
        int other = ledger.calls.at(c, CALL_PLACE);
        if (other == p) {
            return BAD;
        }
        if (news.arrival(other, p, ledger.calls.at(c, CALL_MINUTE)) > minute) {
            return STATE;
        }
        Rows deals = ledger.deals;
        int d = deals.grow();
        if (d < 0) {
            return FULL;
        }
        deals.put(d, DEAL_PLACE, p);
        deals.put(d, DEAL_CALL, c);
        deals.put(d, DEAL_MINUTE, minute);
        deals.put(d, DEAL_UNITS, units);
        // The ways stay as they are while a deal is there, so this is looked for once.
        deals.put(d, DEAL_COMES, news.arrival(p, other, minute));
        return d;
    }

    public int sent(int d, int what) {
        if (!isDeal(d) || !within(what, 0, 6)) {
            return BAD;
        }
        if (what < DEAL_COMES) {
            return ledger.deals.at(d, what);
        }
        if (what == 5) {
            strikes.settle();
            return strikes.taken[d];
        }
        int comes = ledger.deals.at(d, DEAL_COMES);
        return orNone(what == 4 ? comes : strikes.newsOf(d, ledger.deals.at(d, DEAL_PLACE)));
    }

    public int empty(int what) {
        if (!within(what, 0, 2)) {
            return BAD;
        }
        strikes.settle();
        int bits = 0;
        for (int d = 0; d < ledger.deals.size; d++) {
            if (strikes.taken[d] == 0 && isEmptyAs(d, what)) {
                bits |= 1 << d;
            }
        }
        return bits;
    }

    public int undo(int p, int what) {
        if (!isPlace(p) || !within(what, 0, 1)) {
            return BAD;
        }
        strikes.settle();
        int fewest = strikes.fewestUndone(p);
        return what == 0 ? fewest : strikes.leastUndone(fewest);
    }

    // ---- what it brings

    public int gain(int p, int minute, boolean sure, int what) {
        if (!isPlace(p) || !isMinute(minute) || !within(what, 0, 1)) {
            return BAD;
        }
        gains.watch(p, sure);
        gains.trade(minute);
        return what == 0 ? gains.brings : gains.units;
    }

    public int chance(int p, int minute, boolean sure) {
        if (!isPlace(p) || !isMinute(minute)) {
            return BAD;
        }
        gains.watch(p, sure);
        return gains.firstFrom(minute);
    }

    public int owes(int p, int b, int minute, int what) {
        if (!isPlace(p) || !isMinute(minute) || !within(what, 0, 2) || what == 1 && !isPlace(b)) {
            return BAD_DEBT;
        }
        strikes.settle();
        switch (what) {
            case 0: return strikes.debt(p, minute);
            case 1: return strikes.debtKnown(p, b, minute);
            default: return strikes.debtAtMost(p, minute);
        }
    }

    public int over(int minute) {
        if (!isMinute(minute)) {
            return BAD;
        }
        strikes.settle();
        int bits = 0;
        for (int p = 0; p < plan.places; p++) {
            if (strikes.debtAtMost(p, minute) > plan.most) {
                bits |= 1 << p;
            }
        }
        return bits;
    }

    public int peak(int p, int what) {
        if (!isPlace(p) || !within(what, 0, 1)) {
            return BAD_DEBT;
        }
        strikes.settle();
        int minute = strikes.peakMinute(p);
        return what == 0 ? minute : strikes.debt(p, minute);
    }

    // ---- the common book

    public int waits(int p, int minute) {
        if (!isPlace(p) || !isMinute(minute)) {
            return BAD;
        }
        waiting.look(minute);
        return orNone(waiting.longest[p]);
    }

    public int book(int minute, int what) {
        if (!isMinute(minute) || !within(what, 0, 1)) {
            return BAD;
        }
        waiting.look(minute);
        int best = NONE;
        int least = NEVER;
        for (int p = 0; p < plan.places; p++) {
            if (waiting.longest[p] < least) {
                best = p;
                least = waiting.longest[p];
            }
        }
        return what == 0 ? best : orNone(least);
    }

    public int enough(int p, int a, int b) {
        if (!isPlace(p) || !isMinute(a) || !within(b, a, LAST_MINUTE)) {
            return BAD;
        }
        return orNone(waiting.longestIn(p, a, b));
    }

    // ---- how far apart

    public long odds(int n, int k, int what) {
        if (!isAge(n) || !within(k, -FARTHEST, FARTHEST) || !within(what, 0, 1)) {
            return BAD;
        }
        worth.walk(n);
        return Worth.inLowestTerms(worth.counts[k + FARTHEST], worth.power(n), what);
    }

    public long loss(int n, int w, int what) {
        if (!isAge(n) || !within(w, 0, FARTHEST) || !within(what, 0, 1)) {
            return BAD;
        }
        return Worth.inLowestTerms(worth.lossSum(n, w), worth.power(n), what);
    }

    public int wide(int n, int a, int b) {
        if (!isAge(n) || !within(a, 0, 999) || !within(b, 1, 999)) {
            return BAD;
        }
        for (int w = 0; w <= FARTHEST; w++) {
            if (worth.lossSum(n, w) * b <= worth.power(n) * a) {
                return w;
            }
        }
        return NONE;
    }

    public long near(int n, int m, int w, int what) {
        if (!isAge(n) || !within(m, 0, n) || !within(w, 0, FARTHEST) || !within(what, 0, 1)) {
            return BAD;
        }
        long less = worth.lossSum(n, w) - worth.lossSum(m, w) * worth.power(n - m);
        return Worth.inLowestTerms(less, worth.power(n), what);
    }

    // ---- images, sheets

    public int keep(int k) {
        if (!within(k, 0, IMAGES - 1)) {
            return BAD;
        }
        int was = images[k].kept ? 1 : 0;
        images[k].become(ledger);
        images[k].kept = true;
        return was;
    }

    public int back(int k) {
        if (!within(k, 0, IMAGES - 1)) {
            return BAD;
        }
        if (!images[k].kept) {
            return STATE;
        }
        ledger.become(images[k]);
        return ledger.calls.size;
    }

    public int sheet(int k, int lane, int n) {
        if (!isSheet(k) || !isLane(lane) || n > CELLS) {
            return BAD;
        }
        if (n < 0) {
            return -10 - FAULT_SIZE;
        }
        sheets[k].renew(lane, n);
        return 1;
    }

    public int lay(int k, int i, int v) {
        if (!isSheet(k)) {
            return BAD;
        }
        if (sheets[k].isNothing()) {
            return -10 - FAULT_NULL;
        }
        return sheets[k].put(i, v) ? 1 : -10 - FAULT_INDEX;
    }

    public int read(int k, int lane, int f, int n) {
        if (!isSheet(k) || !isLane(lane) || !within(n, 0, STEPS_READ)) {
            return BAD;
        }
        int found = n == 0 ? 0 : sheets[k].faultAs(lane);
        int whole = 0;
        if (found == 0) {
            whole = sheets[k].wholeSteps(f, n);
            found = whole < n ? FAULT_INDEX : 0;
        }
        int had = ledger.steps.size;
        for (int i = 0; i < whole; i++) {
            int at = f + i * STEP_WIDTH;
            int answer = step(sheets[k].at(at), sheets[k].at(at + 1), sheets[k].at(at + 2));
            if (answer < 0) {
                ledger.steps.size = had;
                return answer == FULL ? FULL : -20 - i;
            }
        }
        torn = found;
        return whole;
    }

    public int torn() {
        return torn;
    }

    public int count(int what) {
        switch (what) {
            case 0: return ledger.steps.size;
            case 1: return ledger.calls.size;
            case 2: return ledger.deals.size;
            case 3: return (images[0].kept ? 1 : 0) + (images[1].kept ? 1 : 0);
            case 4: return tape.length;
            case 5: return sheets[0].isNothing() ? NONE : sheets[0].size;
            default: return BAD;
        }
    }

    // ---- what a number may be

    private static boolean within(int v, int low, int high) {
        return low <= v && v <= high;
    }

    private static int orNone(int minute) {
        return minute >= NEVER ? NONE : minute;
    }

    private static boolean isMinute(int minute) {
        return within(minute, 0, LAST_MINUTE);
    }

    private static boolean isAge(int n) {
        return within(n, 0, FARTHEST);
    }

    private static boolean isSheet(int k) {
        return within(k, 0, SHEETS - 1);
    }

    private static boolean isLane(int lane) {
        return within(lane, 0, LANES - 1);
    }

    private boolean isPlace(int p) {
        return within(p, 0, plan.places - 1);
    }

    private boolean isCall(int c) {
        return within(c, 0, ledger.calls.size - 1);
    }

    private boolean isDeal(int d) {
        return within(d, 0, ledger.deals.size - 1);
    }

    private boolean isEmptyAs(int d, int what) {
        int c = ledger.deals.at(d, DEAL_CALL);
        if (what == 1) {
            return ledger.isUp(c, ledger.deals.at(d, DEAL_COMES));
        }
        if (what == 2) {
            int known = seen(c, ledger.deals.at(d, DEAL_PLACE), 1);
            return known >= 0 && known <= ledger.deals.at(d, DEAL_MINUTE);
        }
        return true;
    }

    /** A table of numbers that grows up to a bound: it is made once, as the room is small. */
    private static final class Rows {
        final int most;
        final int width;
        final int[] cells;
        int size;

        Rows(int most, int width) {
            this.most = Math.max(most, 0);
            this.width = Math.max(width, 0);
            cells = new int[this.most * this.width];
        }

        int at(int row, int column) {
            if (row < 0 || row >= size || column < 0 || column >= width) {
                return 0;
            }
            return cells[row * width + column];
        }

        void put(int row, int column, int v) {
            if (row >= 0 && row < size && column >= 0 && column < width) {
                cells[row * width + column] = v;
            }
        }

        /** The number of the row that is new, or -1 where there is no room for it. */
        int grow() {
            if (size >= most) {
                return -1;
            }
            size++;
            return size - 1;
        }

        void become(Rows other) {
            System.arraycopy(other.cells, 0, cells, 0, Math.min(cells.length, other.cells.length));
            size = Math.min(most, other.size);
        }
    }

    /** THE TAPE and the TOKEN that was read of it last. */
    private static final class Tape {
        static final int END = 0, NAME = 1, NUMBER = 2, SIGN = 3, WRONG = 4;
        static final int FIGURES = 3;

        final byte[] bytes = new byte[TAPE];
        int length;
        int next;
        int kind;
        int start;
        int value;

        boolean push(long v) {
            if (length < 0 || length + 8 > TAPE) {
                return false;
            }
            for (int i = 0; i < 8; i++) {
                bytes[length + i] = (byte) (v >>> (56 - 8 * i));
            }
            length += 8;
            return true;
        }

        /** Bytes above 127 come as numbers below 0: no TOKEN has them, so that does no harm. */
        private int byteAt(int i) {
            return i >= 0 && i < length && i < TAPE ? bytes[i] : -1;
        }

        /** Where bytes between two, from one on, end. */
        private int endOfRun(int from, int low, int high) {
            for (int i = from; i >= 0 && i < length && i < TAPE; i++) {
                if (bytes[i] < low || bytes[i] > high) {
                    return i;
                }
            }
            return length;
        }

        void advance() {
            start = endOfRun(next, ' ', ' ');
            int b = byteAt(start);
            if (start >= length) {
                kind = END;
                next = start;
            } else if (b >= 'a' && b <= 'z') {
                kind = NAME;
                next = endOfRun(start, 'a', 'z');
            } else if (b >= '0' && b <= '9') {
                next = endOfRun(start, '0', '9');
                kind = next - start > FIGURES ? WRONG : NUMBER;
            } else {
                kind = b == ';' ? SIGN : WRONG;
                next = start + 1;
            }
            value = 0;
            for (int i = start; kind == NUMBER && i < next; i++) {
                value = value * 10 + byteAt(i) - '0';
            }
        }

        boolean isName(String name) {
            if (kind != NAME || next - start != name.length()) {
                return false;
            }
            for (int i = 0; i < name.length(); i++) {
                if (byteAt(start + i) != name.charAt(i)) {
                    return false;
                }
            }
            return true;
        }
    }

    /** Reads THE TAPE into a draft, so that a system with a FAULT leaves the one that stands. */
    private static final class Reader {
        final Tape tape;
        final Plan draft;
        int fault;
        int faultPlace;
        boolean movesTold;
        boolean firstTold;
        boolean mostTold;

        Reader(Tape tape, Plan draft) {
            this.tape = tape;
            this.draft = draft;
        }

        /** How many lines were read up to the end or the FAULT. */
        int parse() {
            draft.clear();
            tape.next = 0;
            fault = 0;
            faultPlace = 0;
            movesTold = false;
            firstTold = false;
            mostTold = false;
            for (int lines = 0; lines < TAPE; lines++) {
                tape.advance();
                if (tape.kind == Tape.END) {
                    return lines;
                }
                if (!isOf(Tape.NAME) || !takeLine()) {
                    return lines;
                }
                tape.advance();
                if (!isOf(Tape.SIGN)) {
                    return lines;
                }
            }
            return TAPE;
        }

        private boolean fail(int code) {
            fault = code;
            faultPlace = tape.start;
            return false;
        }

        private boolean isOf(int kind) {
            if (tape.kind == Tape.WRONG) {
                return fail(FAULT_TOKEN);
            }
            return tape.kind == kind || fail(FAULT_ORDER);
        }

        private boolean takeNumber(int low, int high) {
            tape.advance();
            if (!isOf(Tape.NUMBER)) {
                return false;
            }
            return low <= tape.value && tape.value <= high || fail(FAULT_BOUNDS);
        }

        private boolean takeLine() {
            if (tape.isName("place")) {
                return takePlace();
            }
            if (tape.isName("way")) {
                return takeWay();
            }
            if (tape.isName("shut")) {
                return takeShut();
            }
            if (tape.isName("moves")) {
                return takeMoves();
            }
            if (tape.isName("first")) {
                return takeFirst();
            }
            if (tape.isName("most")) {
                return takeMost();
            }
            return fail(FAULT_ORDER);
        }

        private boolean takePlace() {
            if (draft.places >= PLACES) {
                return fail(FAULT_MANY);
            }
            if (!takeNumber(1, HIGHEST)) {
                return false;
            }
            draft.prices[draft.places] = tape.value;
            draft.places++;
            return true;
        }

        private boolean takeWay() {
            if (!takeNumber(0, draft.places - 1)) {
                return false;
            }
            int a = tape.value;
            if (!takeNumber(0, draft.places - 1)) {
                return false;
            }
            int b = tape.value;
            if (a == b) {
                return fail(FAULT_BOUNDS);
            }
            int w = Plan.pair(a, b);
            if (draft.minutes[w] > 0) {
                return fail(FAULT_TWICE);
            }
            if (!takeNumber(1, LONGEST_WAY)) {
                return false;
            }
            draft.minutes[w] = tape.value;
            draft.ways++;
            return true;
        }

        private boolean takeShut() {
            if (draft.shuts >= SHUTS) {
                return fail(FAULT_MANY);
            }
            if (!takeNumber(0, draft.places - 1)) {
                return false;
            }
            int a = tape.value;
            if (!takeNumber(0, draft.places - 1)) {
                return false;
            }
            int w = Plan.pair(a, tape.value);
            if (draft.minutes[w] == 0) {
                return fail(FAULT_BOUNDS);
            }
            if (!takeNumber(0, LAST_MINUTE)) {
                return false;
            }
            int from = tape.value;
            if (!takeNumber(from, LAST_MINUTE)) {
                return false;
            }
            draft.shutWay[draft.shuts] = w;
            draft.shutFrom[draft.shuts] = from;
            draft.shutTo[draft.shuts] = tape.value;
            draft.shuts++;
            return true;
        }

        private boolean takeMoves() {
            if (movesTold) {
                return fail(FAULT_TWICE);
            }
            movesTold = true;
            for (int i = 0; i < MOVES; i++) {
                if (!takeNumber(0, 4)) {
                    return false;
                }
                draft.moves[i] = tape.value;
            }
            return draft.allMoves() > 0 || fail(FAULT_BOUNDS);
        }

        private boolean takeFirst() {
            if (firstTold) {
                return fail(FAULT_TWICE);
            }
            firstTold = true;
            tape.advance();
            if (!isOf(Tape.NAME)) {
                return false;
            }
            if (tape.isName("sent")) {
                draft.rule = FIRST_SENT;
            } else if (tape.isName("near")) {
                draft.rule = FIRST_NEAR;
            } else if (tape.isName("number")) {
                draft.rule = FIRST_NUMBER;
            } else {
                return fail(FAULT_ORDER);
            }
            return true;
        }

        private boolean takeMost() {
            if (mostTold) {
                return fail(FAULT_TWICE);
            }
            mostTold = true;
            if (!takeNumber(1, HIGHEST)) {
                return false;
            }
            draft.most = tape.value;
            return true;
        }
    }

    /** A system as a text tells it. */
    private static final class Plan {
        final int[] prices = new int[PLACES];
        /** By pair(): minutes of the way, 0 where there is none. */
        final int[] minutes = new int[PLACES * PLACES];
        final int[] shutWay = new int[SHUTS];
        final int[] shutFrom = new int[SHUTS];
        final int[] shutTo = new int[SHUTS];
        final int[] moves = new int[MOVES];
        int places;
        int ways;
        int shuts;
        int rule;
        int most;

        Plan() {
            clear();
        }

        void clear() {
            Arrays.fill(minutes, 0);
            moves[0] = 1;
            moves[1] = 2;
            moves[2] = 1;
            places = 0;
            ways = 0;
            shuts = 0;
            rule = FIRST_SENT;
            most = HIGHEST;
        }

        void become(Plan other) {
            System.arraycopy(other.prices, 0, prices, 0, PLACES);
            System.arraycopy(other.minutes, 0, minutes, 0, PLACES * PLACES);
            System.arraycopy(other.shutWay, 0, shutWay, 0, SHUTS);
            System.arraycopy(other.shutFrom, 0, shutFrom, 0, SHUTS);
            System.arraycopy(other.shutTo, 0, shutTo, 0, SHUTS);
            System.arraycopy(other.moves, 0, moves, 0, MOVES);
            places = other.places;
            ways = other.ways;
            shuts = other.shuts;
            rule = other.rule;
            most = other.most;
        }

        /** One number for two places, either way round: a way is the same from both its ends. */
        static int pair(int a, int b) {
            return a < b ? a * PLACES + b : b * PLACES + a;
        }

        int allMoves() {
            return moves[0] + moves[1] + moves[2];
        }

        /** The first minute from one on in which a way is not shut. */
        int openFrom(int w, int minute) {
            int t = minute;
            boolean open = false;
            // A shut that was passed is behind t for good: after one round for each, t is free.
            for (int i = 0; i < SHUTS && !open; i++) {
                open = true;
                for (int s = 0; s < shuts; s++) {
                    if (shutWay[s] == w && shutFrom[s] <= t && t <= shutTo[s]) {
                        t = shutTo[s] + 1;
                        open = false;
                    }
                }
            }
            return t;
        }

        /** The last minute up to one in which a way is not shut; below 0: there is none. */
        int openUpTo(int w, int minute) {
            int t = minute;
            boolean open = false;
            for (int i = 0; i < SHUTS && !open; i++) {
                open = true;
                for (int s = 0; s < shuts; s++) {
                    if (shutWay[s] == w && shutFrom[s] <= t && t <= shutTo[s]) {
                        t = shutFrom[s] - 1;
                        open = false;
                    }
                }
            }
            return t;
        }
    }

    /** When news is where: what leaves a place later comes nowhere earlier. */
    private static final class News {
        final Plan plan;
        final int[] arrives = new int[PLACES];
        final int[] leaves = new int[PLACES];

        News(Plan plan) {
            this.plan = plan;
        }

        /** When what leaves a place at a minute comes to each place; NEVER. */
        void spread(int from, int minute) {
            Arrays.fill(arrives, NEVER);
            if (from < 0 || from >= PLACES || minute >= NEVER) {
                return;
            }
            arrives[from] = minute;
            int gone = 0;
            for (int i = 0; i < plan.places; i++) {
                int a = firstReached(gone);
                if (a < 0) {
                    return;
                }
                gone |= 1 << a;
                goOn(a);
            }
        }

        private int firstReached(int gone) {
            int best = -1;
            for (int a = 0; a < plan.places; a++) {
                if ((gone >> a & 1) == 0 && arrives[a] < NEVER
                        && (best < 0 || arrives[a] < arrives[best])) {
                    best = a;
                }
            }
            return best;
        }

        private void goOn(int a) {
            for (int b = 0; b < plan.places; b++) {
                int w = Plan.pair(a, b);
                if (plan.minutes[w] > 0) {
                    int t = plan.openFrom(w, arrives[a]) + plan.minutes[w];
                    arrives[b] = Math.min(arrives[b], t);
                }
            }
        }

        /** The last minute at which what comes to a place by a minute left each place; -1. */
        void gather(int to, int minute) {
            Arrays.fill(leaves, -1);
            if (to < 0 || to >= PLACES) {
                return;
            }
            leaves[to] = minute;
            int gone = 0;
            for (int i = 0; i < plan.places; i++) {
                int b = lastLeft(gone);
                if (b < 0) {
                    return;
                }
                gone |= 1 << b;
                goBack(b);
            }
        }

        private int lastLeft(int gone) {
            int best = -1;
            for (int b = 0; b < plan.places; b++) {
                if ((gone >> b & 1) == 0 && leaves[b] >= 0
                        && (best < 0 || leaves[b] > leaves[best])) {
                    best = b;
                }
            }
            return best;
        }

        private void goBack(int b) {
            for (int a = 0; a < plan.places; a++) {
                int w = Plan.pair(a, b);
                if (plan.minutes[w] > 0) {
                    int t = plan.openUpTo(w, leaves[b] - plan.minutes[w]);
                    leaves[a] = Math.max(leaves[a], t);
                }
            }
        }

        /** As gather(), were news nowhere under way. */
        void gatherAtOnce(int minute) {
            Arrays.fill(leaves, minute);
        }

        int arrival(int from, int to, int minute) {
            spread(from, minute);
            return to >= 0 && to < PLACES ? arrives[to] : NEVER;
        }

        int latest(int from, int to, int minute) {
            gather(to, minute);
            return from >= 0 && from < PLACES ? leaves[from] : -1;
        }
    }

    /** STEPS, CALLS, DEALS as told: what follows of them is found when it is asked for. */
    private static final class Ledger {
        final Plan plan;
        final Rows steps = new Rows(STEPS, STEP_WIDTH);
        final Rows calls = new Rows(CALLS, CALL_WIDTH);
        final Rows deals = new Rows(DEALS, DEAL_WIDTH);
        boolean kept;

        Ledger(Plan plan) {
            this.plan = plan;
        }

        void clear() {
            steps.size = 0;
            calls.size = 0;
            deals.size = 0;
        }

        void become(Ledger other) {
            steps.become(other.steps);
            calls.become(other.calls);
            deals.become(other.deals);
        }

        int priceAt(int p, int minute) {
            int price = p >= 0 && p < PLACES ? plan.prices[p] : 0;
            int since = 0;
            for (int s = 0; s < steps.size; s++) {
                int from = steps.at(s, STEP_MINUTE);
                if (steps.at(s, STEP_PLACE) == p && since <= from && from <= minute) {
                    price = steps.at(s, STEP_PRICE);
                    since = from;
                }
            }
            return price;
        }

        /** The last minute in which a call stands; the one ahead of its own: in none. */
        int lastMinute(int c) {
            int last = LAST_MINUTE;
            int kind = calls.at(c, CALL_KIND);
            if (kind == TIMED) {
                last = calls.at(c, CALL_V);
            } else if (kind == UNLESS) {
                last = lastUnmoved(c);
            }
            int back = calls.at(c, CALL_BACK);
            return back == NONE ? last : Math.min(last, back - 1);
        }

        /** A price moves at STEPS alone, so that no other minutes need be looked at. */
        private int lastUnmoved(int c) {
            int p = calls.at(c, CALL_PLACE);
            int own = calls.at(c, CALL_MINUTE);
            int price = priceAt(p, own);
            int last = LAST_MINUTE;
            for (int s = 0; s < steps.size; s++) {
                int m = steps.at(s, STEP_MINUTE);
                if (steps.at(s, STEP_PLACE) == p && own < m && m <= last
                        && Math.abs(priceAt(p, m) - price) > calls.at(c, CALL_V)) {
                    last = m - 1;
                }
            }
            return last;
        }

        boolean isUp(int c, int minute) {
            return calls.at(c, CALL_MINUTE) <= minute && minute <= lastMinute(c);
        }
    }

    /** Which DEALS are STRUCK, and who OWES what by them: settle() goes ahead of all else. */
    private static final class Strikes {
        final Plan plan;
        final News news;
        final Rows calls;
        final Rows deals;
        final Ledger ledger;
        final int[] order = new int[DEALS];
        final int[] taken = new int[DEALS];
        final int[] pays = new int[DEALS];
        final int[] left = new int[CALLS];
        final int[] last = new int[CALLS];
        final int[] fullAt = new int[CALLS];
        int excess;

        Strikes(Plan plan, News news, Ledger ledger) {
            this.plan = plan;
            this.news = news;
            this.ledger = ledger;
            calls = ledger.calls;
            deals = ledger.deals;
        }

        void settle() {
            for (int c = 0; c < calls.size; c++) {
                left[c] = calls.at(c, CALL_UNITS);
                last[c] = ledger.lastMinute(c);
                fullAt[c] = NONE;
            }
            putInOrder();
            for (int i = 0; i < deals.size; i++) {
                strike(order[i]);
            }
        }

        private void putInOrder() {
            for (int d = 0; d < deals.size; d++) {
                int i = d;
                while (i > 0 && isAhead(d, order[i - 1])) {
                    order[i] = order[i - 1];
                    i--;
                }
                order[i] = d;
            }
        }

        /** Whether a DEAL goes ahead of one that was told earlier. */
        private boolean isAhead(int d, int other) {
            int comes = deals.at(d, DEAL_COMES);
            int otherComes = deals.at(other, DEAL_COMES);
            if (comes != otherComes) {
                return comes < otherComes;
            }
            int sentAt = deals.at(d, DEAL_MINUTE);
            int otherSentAt = deals.at(other, DEAL_MINUTE);
            if (plan.rule == FIRST_SENT) {
                return sentAt < otherSentAt;
            }
            return plan.rule == FIRST_NEAR && comes - sentAt < otherComes - otherSentAt;
        }

        private void strike(int d) {
            int c = deals.at(d, DEAL_CALL);
            int comes = deals.at(d, DEAL_COMES);
            if (d < 0 || d >= DEALS || c < 0 || c >= CALLS) {
                return;
            }
            taken[d] = 0;
            if (left[c] > 0 && isStanding(c, comes)) {
                taken[d] = Math.min(left[c], deals.at(d, DEAL_UNITS));
                left[c] -= taken[d];
                fullAt[c] = left[c] == 0 ? comes : NONE;
            }
        }

        private boolean isStanding(int c, int minute) {
            return calls.at(c, CALL_MINUTE) <= minute && minute <= last[c];
        }

        /** When a place knows what came of a DEAL. */
        int newsOf(int d, int p) {
            int c = deals.at(d, DEAL_CALL);
            return news.arrival(calls.at(c, CALL_PLACE), p, deals.at(d, DEAL_COMES));
        }

        /** What a place pays for a DEAL; below 0: what it is paid. */
        private int payment(int p, int d) {
            int c = deals.at(d, DEAL_CALL);
            boolean callBuys = calls.at(c, CALL_SIDE) == BUY;
            int sum = calls.at(c, CALL_PRICE) * taken[d];
            if (calls.at(c, CALL_PLACE) == p) {
                return callBuys ? sum : -sum;
            }
            if (deals.at(d, DEAL_PLACE) == p) {
                return callBuys ? -sum : sum;
            }
            return 0;
        }

        int debt(int p, int minute) {
            int sum = 0;
            for (int d = 0; d < deals.size; d++) {
                if (deals.at(d, DEAL_COMES) <= minute) {
                    sum += payment(p, d);
                }
            }
            return sum;
        }

        int debtKnown(int p, int b, int minute) {
            int sum = 0;
            for (int d = 0; d < deals.size; d++) {
                if (newsOf(d, b) <= minute) {
                    sum += payment(p, d);
                }
            }
            return sum;
        }

        int debtAtMost(int p, int minute) {
            int sum = debt(p, minute);
            for (int c = 0; c < calls.size; c++) {
                if (calls.at(c, CALL_PLACE) == p && calls.at(c, CALL_SIDE) == BUY
                        && isStanding(c, minute)) {
                    sum += calls.at(c, CALL_PRICE) * unitsLeft(c, minute);
                }
            }
            return sum;
        }

        private int unitsLeft(int c, int minute) {
            int units = calls.at(c, CALL_UNITS);
            for (int d = 0; d < deals.size; d++) {
                if (deals.at(d, DEAL_CALL) == c && deals.at(d, DEAL_COMES) <= minute) {
                    units -= taken[d];
                }
            }
            return units;
        }

        /** Debts change where DEALS are STRUCK alone, so that no other minutes are looked at. */
        int peakMinute(int p) {
            int best = 0;
            int most = debt(p, 0);
            for (int d = 0; d < deals.size; d++) {
                if (taken[d] == 0) {
                    continue;
                }
                int minute = deals.at(d, DEAL_COMES);
                int sum = debt(p, minute);
                if (sum > most || sum == most && minute < best) {
                    best = minute;
                    most = sum;
                }
            }
            return best;
        }

        int fewestUndone(int p) {
            for (int d = 0; d < deals.size; d++) {
                pays[d] = payment(p, d);
            }
            excess = debt(p, LAST_MINUTE) - plan.most;
            for (int n = 0; n < deals.size; n++) {
                if (sumOfDearest(n, deals.size) >= excess) {
                    return n;
                }
            }
            return deals.size;
        }

        /**
         * Behind fewestUndone(): the bits of so many DEALS that are the least number. A DEAL is
         * among them only if those told ahead of it are not enough without it.
         */
        int leastUndone(int fewest) {
            int bits = 0;
            int lack = excess;
            int n = fewest;
            for (int d = deals.size - 1; d >= 0 && n > 0; d--) {
                if (sumOfDearest(n, d) < lack) {
                    bits |= 1 << d;
                    lack -= pays[d];
                    n--;
                }
            }
            return bits;
        }

        /** What the n dearest of the first so many DEALS come to. */
        private int sumOfDearest(int n, int first) {
            int sum = 0;
            int used = 0;
            for (int i = 0; i < n; i++) {
                int best = -1;
                for (int d = 0; d < first && d < DEALS; d++) {
                    if ((used >> d & 1) == 0 && (best < 0 || pays[d] > pays[best])) {
                        best = d;
                    }
                }
                if (best >= 0) {
                    used |= 1 << best;
                    sum += pays[best];
                }
            }
            return sum;
        }
    }

    /** GAIN of one place: each CALL counts for it in one stretch of minutes. */
    private static final class Gains {
        final News news;
        final Rows calls;
        final int[] opens = new int[CALLS];
        final int[] closes = new int[CALLS];
        final int[] left = new int[CALLS];
        int brings;
        int units;

        Gains(News news, Ledger ledger) {
            this.news = news;
            calls = ledger.calls;
        }

        /** Finds the minutes in which each CALL counts for a place. */
        void watch(int p, boolean sure) {
            for (int c = 0; c < calls.size; c++) {
                opens[c] = NEVER;
                closes[c] = -1;
                boolean timed = calls.at(c, CALL_KIND) == TIMED;
                if (calls.at(c, CALL_PLACE) != p && (timed || !sure)) {
                    setStretch(c, p, timed);
                }
            }
        }

        private void setStretch(int c, int p, boolean timed) {
            int from = calls.at(c, CALL_PLACE);
            int back = calls.at(c, CALL_BACK);
            opens[c] = news.arrival(from, p, calls.at(c, CALL_MINUTE));
            closes[c] = LAST_MINUTE;
            if (back != NONE) {
                closes[c] = Math.min(LAST_MINUTE, news.arrival(from, p, back) - 1);
            }
            if (timed) {
                closes[c] = Math.min(closes[c], news.latest(p, from, calls.at(c, CALL_V)));
            }
        }

        /** Behind watch(): what is bought and sold in a minute. */
        void trade(int minute) {
            brings = 0;
            units = 0;
            for (int c = 0; c < calls.size; c++) {
                boolean counts = opens[c] <= minute && minute <= closes[c];
                left[c] = counts ? calls.at(c, CALL_UNITS) : 0;
            }
            // Each round uses up one CALL at least.
            for (int i = 0; i < CALLS; i++) {
                int sell = best(SELL);
                int buy = best(BUY);
                if (sell < 0 || buy < 0 || margin(sell, buy) <= 0) {
                    return;
                }
                int n = Math.min(left[sell], left[buy]);
                left[sell] -= n;
                left[buy] -= n;
                units += n;
                brings += n * margin(sell, buy);
            }
        }

        private int margin(int sell, int buy) {
            return calls.at(buy, CALL_PRICE) - calls.at(sell, CALL_PRICE);
        }

        /** Of one side the CALL with units left that is the cheapest to buy of, dearest to sell to. */
        private int best(int side) {
            int best = -1;
            for (int c = 0; c < calls.size; c++) {
                if (left[c] == 0 || calls.at(c, CALL_SIDE) != side) {
                    continue;
                }
                int better = best < 0 ? 1 : side == SELL ? margin(c, best) : margin(best, c);
                if (better > 0) {
                    best = c;
                }
            }
            return best;
        }

        /** Behind watch(): the first minute from one on in which some two CALLS bring something. */
        int firstFrom(int minute) {
            int first = NEVER;
            for (int sell = 0; sell < calls.size; sell++) {
                for (int buy = 0; buy < calls.size; buy++) {
                    if (calls.at(sell, CALL_SIDE) == SELL && calls.at(buy, CALL_SIDE) == BUY
                            && margin(sell, buy) > 0) {
                        int both = Math.max(minute, Math.max(opens[sell], opens[buy]));
                        boolean counts = both <= closes[sell] && both <= closes[buy];
                        first = counts ? Math.min(first, both) : first;
                    }
                }
            }
            return first == NEVER ? NONE : first;
        }
    }

    /** How long a BOOK waits. */
    private static final class Waits {
        final Plan plan;
        final News news;
        final int[] longest = new int[PLACES];

        Waits(Plan plan, News news) {
            this.plan = plan;
            this.news = news;
        }

        /** Finds the WAIT of a BOOK at each place in a minute; NEVER. */
        void look(int minute) {
            Arrays.fill(longest, 0);
            for (int a = 0; a < plan.places; a++) {
                news.spread(a, minute);
                for (int p = 0; p < plan.places; p++) {
                    int t = news.arrives[p];
                    longest[p] = Math.max(longest[p], t >= NEVER ? NEVER : t - minute);
                }
            }
        }

        /**
         * The longest WAIT in minutes from one to another. From one minute to the next a WAIT
         * grows only if the news of the first just got away ahead of a shut and that of the
         * second meets it: those second minutes, and the first of all, are all to look at.
         */
        int longestIn(int p, int from, int to) {
            look(from);
            int most = p >= 0 && p < PLACES ? longest[p] : NEVER;
            for (int s = 0; s < plan.shuts; s++) {
                int a = plan.shutWay[s] / PLACES;
                int b = plan.shutWay[s] % PLACES;
                most = Math.max(most, longestBehind(a, s, p, from, to));
                most = Math.max(most, longestBehind(b, s, p, from, to));
            }
            return most;
        }

        /** The longest under way to p of what meets the beginning of a shut at one of its ends. */
        private int longestBehind(int end, int s, int p, int from, int to) {
            int most = 0;
            news.gather(end, plan.shutFrom[s] - 1);
            for (int a = 0; a < plan.places; a++) {
                int minute = news.leaves[a] + 1;
                if (from < minute && minute <= to) {
                    most = Math.max(most, news.arrival(a, p, minute) - minute);
                }
            }
            return most;
        }
    }

    /** A WORTH that moves by chances: how many of power(n) courses lead where in n minutes. */
    private static final class Worth {
        static final int WIDTH = 2 * FARTHEST + 1;

        final Plan plan;
        final long[] counts = new long[WIDTH];
        final long[] before = new long[WIDTH];

        Worth(Plan plan) {
            this.plan = plan;
        }

        void walk(int n) {
            Arrays.fill(counts, 0);
            counts[FARTHEST] = 1;
            for (int i = 0; i < n; i++) {
                System.arraycopy(counts, 0, before, 0, WIDTH);
                for (int k = 0; k < WIDTH; k++) {
                    long down = k + 1 < WIDTH ? before[k + 1] : 0;
                    long up = k > 0 ? before[k - 1] : 0;
                    counts[k] = plan.moves[0] * down + plan.moves[1] * before[k]
                            + plan.moves[2] * up;
                }
            }
        }

        long power(int n) {
            long all = 1;
            for (int i = 0; i < n; i++) {
                all *= plan.allMoves();
            }
            return all;
        }

        /** LOSS times power(n). */
        long lossSum(int n, int w) {
            walk(n);
            long sum = 0;
            for (int k = 0; k < WIDTH; k++) {
                sum += counts[k] * Math.max(0, Math.abs(k - FARTHEST) - w);
            }
            return sum;
        }

        /** The numerator (what 0) or the denominator of a by b, b above 0. */
        static long inLowestTerms(long a, long b, int what) {
            long x = Math.abs(a);
            long y = b;
            // Of two steps each makes a number half as great at least.
            for (int i = 0; i < 200 && y > 0; i++) {
                long rest = x % y;
                x = y;
                y = rest;
            }
            long most = Math.max(x, 1);
            return what == 0 ? a / most : b / most;
        }
    }

    /** A row of CELLS of one lane, or nothing; as ints, as all lanes fit in these. */
    private static final class Sheet {
        static final int NOTHING = -1, BYTES = 0, SHORTS = 1;

        final int[] cells = new int[CELLS];
        int lane = NOTHING;
        int size;

        boolean isNothing() {
            return lane == NOTHING;
        }

        void renew(int newLane, int n) {
            lane = newLane;
            size = Math.min(Math.max(n, 0), CELLS);
            Arrays.fill(cells, 0);
        }

        boolean put(int i, int v) {
            if (i < 0 || i >= size) {
                return false;
            }
            cells[i] = lane == BYTES ? (byte) v : lane == SHORTS ? (short) v : v;
            return true;
        }

        int at(int i) {
            return i >= 0 && i < size ? cells[i] : 0;
        }

        /** What the machine finds when the row is taken as of a lane and one CELL is read. */
        int faultAs(int askedLane) {
            if (isNothing()) {
                return FAULT_NULL;
            }
            return lane == askedLane ? 0 : FAULT_CAST;
        }

        /** How many of n STEPS from a CELL on are there with all their CELLS. */
        int wholeSteps(int f, int n) {
            return f < 0 || f >= size ? 0 : Math.min(n, (size - f) / STEP_WIDTH);
        }
    }
}
