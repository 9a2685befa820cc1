import java.util.ArrayList;
import java.util.List;

/**
 * One MacroScopes object, spoken to in texts, and a count of the answers that are not as due. An
 * object is used for 512 calls at most: then a new one, to which the same was said, goes on.
 */
final class Session {
    static final int CALLS = 512;
    static final int NONE = MacroScopes.NONE;

    private enum Kind { TYPE, READ, MEANS }

    private record Change(Kind kind, long characters, int n) { }

    private static int compared = 0;
    private static int wrong = 0;
    private static String sentence = "";

    private final List<Change> changes = new ArrayList<>();
    private MacroScopes x = new MacroScopes();
    private int calls = 0;
    private String last = "";

    /** The sentence of the document that the next answers are due by. */
    static void sentence(String words) {
        sentence = words;
    }

    /** How many answers were compared with those that are due. */
    static int compared() {
        return compared;
    }

    static void due(String what, Object got, Object want) {
        compared++;
        if (!got.equals(want)) {
            wrong++;
            System.out.println(what + " answered " + got + ", due is " + want
                + (sentence.isEmpty() ? "" : "  [" + sentence + "]"));
        }
    }

    /** Ends the test, with exit code 1 if an answer was wrong. */
    static void end() {
        if (wrong > 0) {
            System.out.println(wrong + " answers are not as due");
            System.exit(1);
        }
    }

    /** The object, which one more call is made of. */
    private MacroScopes object() {
        if (calls == CALLS) {
            if (changes.size() >= CALLS) {
                throw new IllegalStateException("the test says more to an object than 512 calls can");
            }
            x = new MacroScopes();
            calls = changes.size();
            for (Change change : changes) {
                make(change);
            }
        }
        calls++;
        return x;
    }

    private int make(Change change) {
        return switch (change.kind) {
            case TYPE -> x.type(change.characters, change.n);
            case READ -> x.read();
            case MEANS -> x.means();
        };
    }

    private int change(Kind kind, long characters, int n) {
        object();
        Change change = new Change(kind, characters, n);
        changes.add(change);
        return make(change);
    }

    int type(long characters, int n) {
        return change(Kind.TYPE, characters, n);
    }

    int read() {
        return change(Kind.READ, 0, 0);
    }

    int means() {
        return change(Kind.MEANS, 0, 0);
    }

    int place() {
        return object().place();
    }

    int count(int what) {
        return object().count(what);
    }

    int character(int k) {
        return object().character(k);
    }

    int check() {
        return object().check();
    }

    /** Types a whole text, in as few calls as it takes; how long the typed text is then. */
    int type(String text) {
        int length = 0;
        for (int from = 0; from < text.length(); from += 8) {
            int to = Math.min(text.length(), from + 8);
            length = type(bytes(text.substring(from, to)), to - from);
        }
        last = text.length() > 100 ? text.substring(0, 100) + ".." : text;
        return length;
    }

    /** Reads a text with an object that is used for more calls than the document speaks of. */
    static int read(MacroScopes x, String text) {
        for (int from = 0; from < text.length(); from += 8) {
            String part = text.substring(from, Math.min(text.length(), from + 8));
            x.type(bytes(part), part.length());
        }
        return x.read();
    }

    static long bytes(String characters) {
        long bytes = 0;
        for (char c : characters.toCharArray()) {
            bytes = bytes << 8 | c;
        }
        return bytes;
    }

    int read(String text) {
        type(text);
        return read();
    }

    int means(String text) {
        type(text);
        return means();
    }

    String told() {
        StringBuilder told = new StringBuilder();
        for (int c = character(0); c != NONE; c = character(told.length())) {
            told.append((char) c);
        }
        return told.toString();
    }

    /** A text without a fault, and what it tells. */
    Session tells(String text, String want) {
        due("read " + text, read(text), 0);
        due("place after " + last, place(), NONE);
        due("told by " + last, told(), want);
        due("count(0) after " + last, count(0), want.length());
        return this;
    }

    /** A text with a fault, and its place; nothing else may change. */
    Session faults(String text, int fault, int place) {
        String before = told();
        int[] counts = counts();
        int check = check();
        due("read " + text, read(text), fault);
        due("place after " + last, place(), place);
        due("told after " + last, told(), before);
        due("check after " + last, check(), check);
        int[] after = counts();
        for (int what = 0; what < counts.length; what++) {
            due("count(" + what + ") after " + last, after[what], counts[what]);
        }
        return this;
    }

    /** A text whose first top form has the fault. */
    Session faults(String text, int fault) {
        return faults(text, fault, fault == 1 ? NONE : 0);
    }

    private int[] counts() {
        int[] counts = new int[6];
        for (int what = 0; what < 6; what++) {
            counts[what] = count(what);
        }
        return counts;
    }

    Session counts(int... want) {
        for (int what = 0; what < want.length; what++) {
            due("count(" + what + ") after " + last, count(what), want[what]);
        }
        return this;
    }

    Session means(String text, int want) {
        due("means of '" + text + "'", means(text), want);
        return this;
    }

    /** The next character that is typed is the first of a text. */
    Session isEmpty() {
        due("type of one character after '" + last + "'", type('a', 1), 1);
        due("means of one character after '" + last + "'", means(), 0);
        return this;
    }

    /** So many texts, a blank between. */
    static String row(String text, int n) {
        return String.join(" ", java.util.Collections.nCopies(n, text));
    }
}
