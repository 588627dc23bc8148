import java.lang.reflect.InvocationTargetException;
import java.lang.reflect.Method;
import java.util.ArrayList;
import java.util.HashMap;
import java.util.List;
import java.util.Map;
import java.util.stream.Collectors;

/**
 * An object and the calls on it, told as texts: "step(0, 10, 105)". LOW and HIGH are the least and
 * the greatest int, NONE is -4. As the calls are kept, the object can be made once more.
 */
final class Run {
    static final int BAD = -1, STATE = -2, FULL = -3, NONE = -4, WORST = -1000000;
    /** What an object answers behind so many calls is free, so that no test may ask for it. */
    static final int MOST_CALLS = 512;

    private static final Map<String, Method> FACE = new HashMap<>();
    private static final Map<String, String> STATES = new HashMap<>();

    static {
        for (Method m : LatePrices.class.getDeclaredMethods()) {
            FACE.put(m.getName(), m);
        }
    }

    private final LatePrices object = new LatePrices();
    private final List<String> calls = new ArrayList<>();

    static Run fresh() {
        return new Run();
    }

    /** An object that has taken a system. */
    static Run of(String text) {
        Run run = new Run();
        if (run.tell(text) < 0) {
            Sentences.wrong("not taken: " + text);
        }
        return run;
    }

    int made() {
        return calls.size();
    }

    Run copy() {
        Run run = new Run();
        for (String call : calls) {
            run.ask(call);
        }
        return run;
    }

    long ask(String call) {
        calls.add(call);
        if (calls.size() > MOST_CALLS) {
            Sentences.wrong("more than 512 calls on one object");
        }
        int open = call.indexOf('(');
        Method m = FACE.get(call.substring(0, open));
        Class<?>[] types = m.getParameterTypes();
        String inside = call.substring(open + 1, call.length() - 1);
        String[] texts = inside.isEmpty() ? new String[0] : inside.split(", ");
        Object[] values = new Object[types.length];
        for (int i = 0; i < types.length; i++) {
            values[i] = value(types[i], texts[i]);
        }
        try {
            return ((Number) m.invoke(object, values)).longValue();
        } catch (IllegalAccessException | InvocationTargetException e) {
            throw new IllegalStateException(calls + "", e);
        }
    }

    private static Object value(Class<?> type, String text) {
        if (type == boolean.class) {
            return Boolean.valueOf(text);
        }
        if (type == long.class) {
            return Long.valueOf(text);
        }
        switch (text) {
            case "LOW": return Integer.MIN_VALUE;
            case "HIGH": return Integer.MAX_VALUE;
            case "NONE": return NONE;
            default: return Integer.valueOf(text);
        }
    }

    Run due(String call, long want) {
        long got = ask(call);
        if (got != want) {
            System.out.println("behind " + calls.stream().filter(c -> !c.startsWith("feed"))
                    .collect(Collectors.toList()));
        }
        Sentences.due(call, got, want);
        return this;
    }

    /** A call for each answer that is due, with 0, 1, 2 .. in the place of %. */
    Run each(String call, long... wants) {
        for (int i = 0; i < wants.length; i++) {
            due(with(call, i), wants[i]);
        }
        return this;
    }

    /** Calls that are no more than the way to what is asked: none of them may be refused. */
    Run does(String... all) {
        for (String call : all) {
            long got = ask(call);
            if (got == BAD || got == STATE || got == FULL || got <= -10) {
                Sentences.wrong(calls + " answered " + got);
            }
        }
        return this;
    }

    private static String with(String call, int v) {
        return call.replace("%", v + "");
    }

    // ---- texts

    /** The call that feeds eight bytes, blanks behind a text that is shorter. */
    static String feed(String text) {
        long v = 0;
        for (int i = 0; i < 8; i++) {
            v = v << 8 | (i < text.length() ? text.charAt(i) : ' ');
        }
        return "feed(" + v + ")";
    }

    Run feeds(String text) {
        for (int i = 0; i < text.length(); i += 8) {
            ask(feed(text.substring(i, Math.min(i + 8, text.length()))));
        }
        return this;
    }

    /** The text is all that is on THE TAPE then. */
    Run writes(String text) {
        ask("end(0)");
        feeds(text);
        ask("end(" + text.length() + ")");
        return this;
    }

    long tell(String text) {
        return writes(text).ask("system()");
    }

    Run lays(int k, int... cells) {
        for (int i = 0; i < cells.length; i++) {
            does("lay(" + k + ", " + i + ", " + cells[i] + ")");
        }
        return this;
    }

    // ---- what is refused

    /** Asked of a copy: the answer, and that it changes nothing. */
    Run refuses(String call, long want) {
        copy().due(call, want).isAs(this, call);
        return this;
    }

    /** The first and the last number that a call takes in the place of %; the next ones are refused. */
    Run bounds(String call, int low, long atLow, int high, long atHigh) {
        return bounds(call, low, atLow, high, atHigh, BAD);
    }

    Run bounds(String call, int low, long atLow, int high, long atHigh, long refusal) {
        copy().due(with(call, low), atLow);
        copy().due(with(call, high), atHigh);
        for (int v : new int[] {low - 1, high + 1, Integer.MIN_VALUE, Integer.MAX_VALUE}) {
            refuses(with(call, v), refusal);
        }
        return this;
    }

    /** Whether later calls tell the same of this object as of another one. Neither is changed. */
    Run isAs(Run other, String what) {
        Sentences.same(what, copy().state(), STATES.computeIfAbsent(other.calls + "",
                key -> other.copy().state()));
        return this;
    }

    /** What later calls tell. It uses the object up. */
    private String state() {
        StringBuilder s = new StringBuilder();
        asks(s, "told(%)", 8);
        asks(s, "count(%)", 6);
        s.append(ask("fault()")).append(' ').append(ask("torn()")).append(' ');
        long places = ask("told(0)");
        for (int a = 1; a < places; a++) {
            asks(s, "way(" + a + ", %)", a);
        }
        lookAtRows(s, false);
        for (int k = 0; k < 2; k++) {
            s.append("\n  image ").append(ask("back(" + k + ")")).append(": ");
            lookAtRows(s, true);
        }
        lookAtSheets(s);
        s.append("\n  tape ").append(ask("system()")).append(": ").append(ask("fault()")).append(' ');
        asks(s, "told(%)", 8);
        return s.append(ask("price(0, 0)")).toString();
    }

    private void asks(StringBuilder s, String call, long n) {
        for (int i = 0; i < n; i++) {
            s.append(ask(with(call, i))).append(' ');
        }
    }

    private void lookAtRows(StringBuilder s, boolean brief) {
        asks(s, "count(%)", 3);
        lookAtPrices(s);
        long called = ask("count(1)");
        long dealt = ask("count(2)");
        int[] few = brief ? new int[] {7, 8} : new int[] {1, 3, 7, 8};
        int[] all = {0, 1, 2, 3, 4, 5, 6, 7, 8, 9};
        for (int c = 0; c < called; c++) {
            s.append("\n  call ");
            for (int what : brief || called > 6 ? few : all) {
                s.append(ask("of(" + c + ", " + what + ")")).append(' ');
            }
            s.append(brief ? "" : ask("seen(" + c + ", " + ask("of(" + c + ", 0)") + ", 1)"));
        }
        for (int d = 0; d < dealt; d++) {
            s.append("\n  deal ");
            if (brief || dealt > 8) {
                s.append(ask("sent(" + d + ", 2)")).append(' ').append(ask("sent(" + d + ", 5)"));
            } else {
                asks(s, "sent(" + d + ", %)", 7);
            }
        }
    }

    private void lookAtPrices(StringBuilder s) {
        s.append("\n  prices ");
        long places = Math.min(3, ask("told(0)"));
        for (int m : new int[] {0, 6, 40, 999}) {
            for (long p = 0; p < places; p++) {
                s.append(ask("price(" + p + ", " + m + ")")).append(' ');
            }
        }
    }

    private void lookAtSheets(StringBuilder s) {
        s.append("\n  sheets ");
        for (int k = 0; k < 4; k++) {
            for (int lane = 0; lane < 3; lane++) {
                s.append(ask("read(" + k + ", " + lane + ", 0, 13)")).append(' ');
            }
            s.append(ask("torn()")).append(' ');
        }
        lookAtPrices(s);
    }
}
