/** Promise 3: with a fault all stays as it was before the text, but for the typed text, which is empty. */
final class StaysTest {
    private static final String BEFORE = "(define-syntax m (syntax-rules () ((_) 1) ((_ (a ...) b ...) (quote ((a b) ...)))))"
        + "(define-syntax r (syntax-rules () ((_) (r)))) (m) (lambda (x) x)";
    /** Texts with each fault, the last form having it. */
    private static final String[] FAULTY = {"(", "(r)", "()", "if", "(m 1)", "(m (1))"};

    public static void main(String[] args) {
        definedMacrosStay();
        newMacrosGo();
        otherRulesGo();
        toldStays();
        textIsEmpty();
        lastFault();
        Session.end();
    }

    private static Session begun() {
        Session s = new Session();
        s.tells(BEFORE, "1 (lambda (%0) %0)").counts(18, 1, 1, 4, 2, 30);
        return s;
    }

    private static Session fault(Session s, String before, int tops, int fault) {
        return s.faults(before + FAULTY[fault - 1], fault, fault == 1 ? -1 : tops);
    }

    private static void definedMacrosStay() {
        Session.sentence("With a fault all that was defined stays as it was before the text.");
        for (int fault = 1; fault <= 6; fault++) {
            Session s = begun();
            // The fault of (m 1) needs m, so that another symbol is used for it.
            String gone = fault >= 5 ? "r" : "m";
            if (fault == 2) {
                s.faults("(define m 1) (r)", 2, 1);
            } else {
                fault(s, "(define " + gone + " 1) ", 1, fault);
            }
            s.means("m", 2).means("r", 2).tells("(m)", "1").counts(1, 1, 0, 1, 2, 30);
            s.faults("(r)", 2);
        }
    }

    private static void newMacrosGo() {
        Session.sentence("With a fault all that was defined stays as it was before the text.");
        for (int fault = 1; fault <= 6; fault++) {
            Session s = begun();
            fault(s, "(define-syntax n (syntax-rules () ((_) other))) (n) ", 2, fault);
            s.means("n", 0).tells("(n) (m)", "(n) 1").counts(5, 1, 0, 2, 2, 30);
            s.tells("(define-syntax k (syntax-rules () ((_) another))) (k) (n)", "another (n)").counts(11, 1, 0, 3, 3, 37);
        }
    }

    private static void otherRulesGo() {
        Session.sentence("With a fault all that was defined stays as it was before the text.");
        for (int fault = 1; fault <= 4; fault++) {
            Session s = begun();
            fault(s, "(define-syntax m (syntax-rules () ((_) 2))) (m) ", 2, fault);
            s.tells("(m) (m (1) 2)", "1 (quote ((1 2)))").counts(17, 2, 0, 2, 2, 30);
            fault(s, "(define m 1) (define-syntax m (syntax-rules () ((_) 2))) (m) ", 3, fault);
            s.tells("(m)", "1").counts(1, 1, 0, 1, 2, 30);
            fault(s, "(define-syntax m (syntax-rules () ((_) 2))) (define m 1) ", 2, fault);
            s.tells("(m)", "1").counts(1, 1, 0, 1, 2, 30);
        }
        Session s = begun();
        s.faults("(define-syntax n (syntax-rules () ((_) 2))) (define-syntax k 1)", 3, 1).means("n", 0);
        s.faults("(define-syntax n (syntax-rules () ((_) 2))) (n 1)", 5, 1).means("n", 0);
        s.faults("(define m 1) (define if 1)", 3, 1).means("m", 2);
        s.faults("(define m (m 1))", 5, 0).means("m", 2).faults("(define m m)", 4, 0).means("m", 2);
        s.faults("(define n (m 1))", 5, 0).means("n", 0);
    }

    private static void toldStays() {
        Session.sentence("what was told before, stays as it was before the text");
        for (int fault = 1; fault <= 6; fault++) {
            Session s = begun();
            fault(s, "(lambda (a b c) (long (enough) a)) (m) ", 2, fault);
            Session.due("told", s.told(), "1 (lambda (%0) %0)");
            s.counts(18, 1, 1, 4, 2, 30);
            Session.due("read of nothing", s.read(), 0);
            s.counts(0, 0, 0, 0, 2, 30);
            fault(s, "x ", 1, fault);
            Session.due("told", s.told(), "");
        }
    }

    private static void textIsEmpty() {
        Session.sentence("Reads the typed text, which is empty then");
        for (int fault = 1; fault <= 6; fault++) {
            Session s = begun();
            s.isEmpty();
            fault(s, "x ", 1, fault).isEmpty();
            Session.due("read of nothing", s.read(), 0);
            s.isEmpty();
            Session.due("read again", s.read(), 0);
            s.type("1");
            Session.due("read of 1", s.read(), 0);
            Session.due("told", s.told(), "1");
            Session.due("read of nothing", s.read(), 0);
            Session.due("told", s.told(), "");
        }
        Session s = new Session();
        s.type(" ".repeat(3000));
        Session.due("type behind a full text", s.type('a', 1), -1);
        Session.due("read", s.read(), 0);
        s.isEmpty();
        s = new Session();
        s.type("(".repeat(3000));
        Session.due("read", s.read(), 1);
        s.isEmpty();
    }

    private static void lastFault() {
        Session.sentence("At last, as the last top form's, 2 .. stays as it was before the text");
        Session s = begun();
        s.tells("(define-syntax t (syntax-rules () ((_ a) (quote (" + "a ".repeat(400) + ")))))", "");
        s.faults("(define m 1) (define-syntax n (syntax-rules () ((_) 2))) (t abcdefghijkl)", 2, 2);
        s.means("m", 2).means("n", 0).tells("(m) (n)", "1 (n)");
        s.tells("(define m 1) (m)", "(define m 1) (m)").counts(16, 0, 0, 2, 2);
    }
}
