/** One MacroScopes object, spoken to in texts, and a count of the answers that are not as due. */
final class Session {
    private static int wrong = 0;
    private MacroScopes x = new MacroScopes();
    private String last = "";

    static void due(String what, Object got, Object want) {
        if (!got.equals(want)) {
            wrong++;
            System.out.println(what + " answered " + got + ", due is " + want);
        }
    }

    /** Ends the test, with exit code 1 if an answer was wrong. */
    static void end() {
        if (wrong > 0) {
            System.out.println(wrong + " answers are not as due");
            System.exit(1);
        }
    }

    MacroScopes object() {
        return x;
    }

    /** Types a whole text, in as few calls as it takes. */
    int type(String text) {
        int length = 0;
        for (int from = 0; from < text.length(); from += 8) {
            int to = Math.min(text.length(), from + 8);
            long characters = 0;
            for (int i = from; i < to; i++) {
                characters = characters << 8 | text.charAt(i);
            }
            length = x.type(characters, to - from);
        }
        last = text.length() > 100 ? text.substring(0, 100) + ".." : text;
        return length;
    }

    int read(String text) {
        type(text);
        return x.read();
    }

    int means(String text) {
        type(text);
        return x.means();
    }

    String told() {
        StringBuilder told = new StringBuilder();
        for (int k = 0; x.character(k) != MacroScopes.NONE; k++) {
            told.append((char) x.character(k));
        }
        return told.toString();
    }

    /** A text without a fault, and what it tells. */
    Session tells(String text, String want) {
        due("read " + text, read(text), 0);
        due("place after " + last, x.place(), MacroScopes.NONE);
        due("told by " + last, told(), want);
        due("count(0) after " + last, x.count(0), want.length());
        return this;
    }

    /** A text with a fault, and its place; nothing else may change. */
    Session faults(String text, int fault, int place) {
        String before = told();
        int[] counts = counts();
        due("read " + text, read(text), fault);
        due("place after " + last, x.place(), place);
        due("told after " + last, told(), before);
        int[] after = counts();
        for (int what = 0; what < counts.length; what++) {
            due("count(" + what + ") after " + last, after[what], counts[what]);
        }
        return this;
    }

    /** A text whose first top form has the fault. */
    Session faults(String text, int fault) {
        return faults(text, fault, fault == 1 ? MacroScopes.NONE : 0);
    }

    int[] counts() {
        int[] counts = new int[6];
        for (int what = 0; what < 6; what++) {
            counts[what] = x.count(what);
        }
        return counts;
    }

    Session counts(int... want) {
        for (int what = 0; what < want.length; what++) {
            due("count(" + what + ") after " + last, x.count(what), want[what]);
        }
        return this;
    }

    static String times(String text, int n) {
        return text.repeat(n);
    }
}
