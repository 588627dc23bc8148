import java.util.ArrayList;
import java.util.BitSet;
import java.util.List;
import java.util.regex.Matcher;
import java.util.regex.Pattern;

/**
 * The sentences of the document, each ahead of the answers that it asks for: says() names one, all
 * that is asked behind it is asked for its sake. At the end every word of the document's terms and
 * promises must have been named, and something must have been asked behind each sentence.
 */
final class Sentences {
    /** The section of 'Terms'; the promises have their own numbers. */
    static final int TERMS = 0;
    private static final int PROMISES = 40;

    private static final List<List<String>> SAID = new ArrayList<>();
    private static String now = "";
    private static int sentences;
    private static int asked;
    private static int askedBefore;
    private static int wrong;

    static {
        for (int i = 0; i <= PROMISES; i++) {
            SAID.add(new ArrayList<>());
        }
    }

    private Sentences() {
    }

    static void says(int section, String sentence) {
        endSentence();
        SAID.get(section).add(sentence);
        now = (section == TERMS ? "Terms" : "Promise " + section) + ", '" + sentence + "'";
        sentences++;
        askedBefore = asked;
    }

    private static void endSentence() {
        if (sentences > 0 && asked == askedBefore) {
            wrong("nothing is asked");
        }
    }

    static void wrong(String what) {
        wrong++;
        System.out.println(now + ": " + what);
    }

    static void due(String call, long got, long want) {
        asked++;
        if (got != want) {
            wrong(call + " answered " + got + ", due is " + want);
        }
    }

    static void same(String what, String got, String want) {
        asked++;
        if (!got.equals(want)) {
            wrong(what + " changed what later calls tell:\n  was " + want + "\n  is  " + got);
        }
    }

    /** Whether all answers were as due, and all of the document was named. */
    static boolean allHold(String doc) {
        endSentence();
        now = "the document";
        checkNamed(TERMS, doc.substring(doc.indexOf("An object is used"), doc.indexOf("## The public"))
                + doc.substring(doc.indexOf("## Terms") + 8, doc.indexOf("Ahead of the calls `feed`")));
        for (int i = 1; i <= PROMISES; i++) {
            int from = doc.indexOf("## Promise " + i + ":");
            int to = doc.indexOf("\n## ", from + 1);
            String section = doc.substring(doc.indexOf('\n', from), to);
            checkNamed(i, section.replaceFirst("`[^`]*`:", ""));
        }
        System.out.println(sentences + " sentences, " + asked + " answers, " + wrong + " faults");
        return wrong == 0;
    }

    private static String plain(String text) {
        return text.replaceAll("```(text)?|========", " ").replaceAll("\\s+", " ").trim();
    }

    private static void checkNamed(int section, String text) {
        String plain = plain(text);
        BitSet named = new BitSet();
        for (String sentence : SAID.get(section)) {
            int at = plain.indexOf(plain(sentence));
            if (at < 0) {
                wrong("section " + section + " has no '" + sentence + "'");
            }
            for (; at >= 0; at = plain.indexOf(plain(sentence), at + 1)) {
                named.set(at, at + plain(sentence).length());
            }
        }
        StringBuilder rest = new StringBuilder();
        for (int i = 0; i < plain.length(); i++) {
            rest.append(named.get(i) ? '\n' : plain.charAt(i));
        }
        Matcher m = Pattern.compile("[^\n]*\\w[^\n]*").matcher(rest);
        while (m.find()) {
            wrong("nothing asks for section " + section + ": '" + m.group() + "'");
        }
    }
}
