/** What it is: an object is used for at most 512 calls, and each of these is answered as the document says. */
final class CallsTest {
    public static void main(String[] args) {
        Session.sentence("An object is used for at most 512 calls after it has been made");
        lastCall();
        manyReads();
        manyMacros();
        manyRules();
        manySymbols();
        manyVariables();
        longTexts();
        Session.end();
    }

    /** An object that is used for 512 calls and no more. */
    private static final class Object512 {
        final MacroScopes x = new MacroScopes();
        int calls = 0;

        int left() {
            return Session.CALLS - calls;
        }

        int read(String text) {
            calls += (text.length() + 7) / 8 + 1;
            Session.due("calls within 512", calls <= Session.CALLS, true);
            return Session.read(x, text);
        }

        int means(String text) {
            calls += 2;
            Session.due("calls within 512", calls <= Session.CALLS, true);
            x.type(Session.bytes(text), text.length());
            return x.means();
        }

        int count(int what) {
            calls++;
            Session.due("calls within 512", calls <= Session.CALLS, true);
            return x.count(what);
        }

        int character(int k) {
            calls++;
            Session.due("calls within 512", calls <= Session.CALLS, true);
            return x.character(k);
        }
    }

    private static void lastCall() {
        MacroScopes x = new MacroScopes();
        Session.due("read", Session.read(x, "(define-syntax m (syntax-rules () ((_) (lambda (x) y)))) (m)"), 0);
        int calls = 9;
        for (; calls < 510; calls++) {
            Session.due("call " + calls, x.count(0), 15);
        }
        Session.due("call 511", x.type(Session.bytes("(m)"), 3), 3);
        Session.due("call 512", x.read(), 0);
        x = new MacroScopes();
        for (calls = 1; calls <= 512; calls++) {
            Session.due("call " + calls, x.check(), 1);
        }
        x = new MacroScopes();
        for (calls = 1; calls <= 375; calls++) {
            Session.due("call " + calls, x.type(Session.bytes("(f (a)) "), 8), 8 * calls);
        }
        for (; calls <= 511; calls++) {
            Session.due("call " + calls, x.type(Session.bytes("a"), 1), -1);
        }
        Session.due("call 512", x.read(), 0);
    }

    private static void manyReads() {
        MacroScopes x = new MacroScopes();
        for (int calls = 0; calls < 512; calls += 2) {
            Session.due("type", x.type(Session.bytes("(f a"), 4), 4);
            Session.due("read", x.read(), 1);
        }
        x = new MacroScopes();
        for (int calls = 0; calls < 510; calls += 3) {
            Session.due("type", x.type(Session.bytes("(" + calls + ")"), Integer.toString(calls).length() + 2), Integer.toString(calls).length() + 2);
            Session.due("read", x.read(), 0);
            Session.due("character", x.character(1), (int) Integer.toString(calls).charAt(0));
        }
        Session.due("count", x.count(0), 5);
        Session.due("count", x.count(3), 1);
    }

    private static void manyMacros() {
        Object512 o = new Object512();
        int macros = 0;
        for (; o.left() > 12; macros++) {
            Session.due("read", o.read("(define-syntax m" + macros + "(syntax-rules()((_)" + macros + ")))"), 0);
        }
        Session.due("macros", o.count(4), macros);
        Session.due("size of all rules", o.count(5), 7 * macros);
        Session.due("read of the first", o.read("(m0)"), 0);
        Session.due("character", o.character(0), (int) '0');
        Session.due("read of the last", o.read("(m" + (macros - 1) + ")"), 0);
        Session.due("means of the last", o.means("m" + (macros - 1)), 2);
        Session.due("means of none", o.means("m" + macros), 0);
    }

    /** As much in rules as so many calls can tell. */
    private static void manyRules() {
        Object512 o = new Object512();
        String rules = "(define-syntax m(syntax-rules()((_)(quote(" + "1(1)".repeat(730) + ")))))";
        Session.due("read", o.read(rules), 0);
        int size = 9 + 3 * 730;
        Session.due("size", o.count(5), size);
        rules = "(define-syntax n(syntax-rules()((_)(quote(" + "1(1)".repeat(190) + ")))))";
        Session.due("read", o.read(rules), 0);
        Session.due("size", o.count(5), size + 9 + 3 * 190);
        Session.due("read of too much", o.read("(m)"), 2);
        Session.due("read", o.read("(n)"), 0);
        Session.due("characters", o.count(0), 10 + 6 * 190 - 1);
        Session.due("uses", o.count(1), 1);
        Session.due("calls left", o.left() < 40, true);
    }

    /** Many symbols that rules keep, and then new ones. */
    private static void manySymbols() {
        Object512 o = new Object512();
        StringBuilder names = new StringBuilder();
        int count = 0;
        for (char a = 'a'; a <= 'z'; a++) {
            for (char b = 'A'; b <= 'Z'; b++) {
                names.append(a).append(b).append(' ');
                count++;
            }
        }
        String first = names.substring(0, 3 * 590);
        Session.due("read", o.read("(define-syntax m(syntax-rules()((_)(quote(" + first + ")))))"), 0);
        Session.due("read", o.read("(define-syntax n(syntax-rules()((_)(quote(" + names.substring(3 * 590) + "aa bb cc)))))"), 0);
        Session.due("size", o.count(5), 18 + count + 3);
        Session.due("read", o.read("(m)(n)"), 0);
        String told = "(quote (" + first.trim() + ")) (quote (" + names.substring(3 * 590) + "aa bb cc))";
        Session.due("characters", o.count(0), told.length());
        for (int k = 0; k < told.length(); k += 29) {
            Session.due("character", o.character(k), (int) told.charAt(k));
        }
        Session.due("read", o.read("(lambda(zZ xx)(f zZ xx aA(n)))"), 0);
        Session.due("variables", o.count(2), 2);
        Session.due("character", o.character(16), (int) '(');
    }

    private static void manyVariables() {
        Session s = new Session();
        s.tells("(define-syntax v(syntax-rules()((_)(" + "(lambda(a b c d e f)f)".repeat(40) + "))))", "");
        StringBuilder told = new StringBuilder();
        for (int variable = 0; variable < 480; variable += 6) {
            told.append(variable == 0 ? "(" : variable == 240 ? ") (" : " ").append("(lambda (%").append(variable);
            for (int other = 1; other < 6; other++) {
                told.append(" %").append(variable + other);
            }
            told.append(") %").append(variable + 5).append(")");
        }
        told.append(")");
        // In each text they are numbered from 0 on.
        s.tells("(v)(v)", told.toString()).counts(told.length(), 2, 480, 2);
        s.tells("(v)(v)", told.toString()).counts(told.length(), 2, 480, 2);
        s.faults("(v)(v)(v)(v)(v)", 2, 4);
    }

    private static void longTexts() {
        MacroScopes x = new MacroScopes();
        Session.due("read", Session.read(x, "(f)".repeat(1000)), 0);
        Session.due("told", x.count(0), 3999);
        Session.due("top forms", x.count(3), 1000);
        Session.due("read", Session.read(x, "()".repeat(500)), 3);
        Session.due("place", x.place(), 0);
        Session.due("told", x.count(0), 3999);
    }
}
