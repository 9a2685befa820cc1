/** Promise 1: nothing is defined in a new object, and what each call answers before any text. */
final class NewObjectTest {
    public static void main(String[] args) {
        Session.due("NONE", MacroScopes.NONE, -1);
        nothingDefined();
        countsBeforeAText();
        placeBeforeARead();
        characterBeforeAText();
        meansBeforeAnythingIsTyped();
        checkBeforeAText();
        objectsShareNothing();
        Session.end();
    }

    private static final String[] FAULTS = {"(", "(r)", "()", "if", "(n 1)", "(u (1))"};
    private static final String DEFINED = "(let-syntax ((r (syntax-rules () ((_) (r)))) (n (syntax-rules () ((_) 1)))"
        + " (u (syntax-rules () ((_ (a ...) b ...) (quote ((a b) ...)))))) ";

    /** A text that has each fault, and tells and binds something before it. */
    private static void faultEach(Session s, int fault) {
        String text = "x (lambda (y) y) " + DEFINED + FAULTS[fault - 1] + ")";
        Session.due("read " + text, s.read(text), fault);
    }

    private static void nothingDefined() {
        Session.sentence("Nothing defined.");
        Session s = new Session();
        s.counts(0, 0, 0, 0, 0, 0);
        for (String symbol : new String[] {"m", "let", "or", "cond", "...", "_", "%0"}) {
            s.means(symbol, 0);
        }
        for (String word : new String[] {"lambda", "if", "quote", "let-syntax", "syntax-rules", "define", "define-syntax"}) {
            s.means(word, 1);
        }
        s.tells("(m) (let ((x 1)) x) (or 1 2)", "(m) (let ((x 1)) x) (or 1 2)").counts(28, 0, 0, 3, 0, 0);
    }

    private static void countsBeforeAText() {
        Session.sentence("0 each before one");
        Session s = new Session();
        s.counts(0, 0, 0, 0, 0, 0, -1);
        s.type("(define-syntax m (syntax-rules () ((_) 1)))");
        s.counts(0, 0, 0, 0, 0, 0);
        Session.due("means", s.means(), -1);
        s.counts(0, 0, 0, 0, 0, 0);
        for (int fault = 1; fault <= 6; fault++) {
            faultEach(s, fault);
            s.counts(0, 0, 0, 0, 0, 0);
        }
        s.tells("(lambda (x) x)", "(lambda (%0) %0)").counts(16, 0, 1, 1, 0, 0);
    }

    private static void placeBeforeARead() {
        Session.sentence("NONE when it had none");
        Session s = new Session();
        Session.due("place of a new object", s.place(), -1);
        s.type("if");
        Session.due("place with a typed text", s.place(), -1);
        Session.due("means", s.means(), 1);
        Session.due("place after means", s.place(), -1);
        Session.due("read of nothing", s.read(), 0);
        Session.due("place after a read of nothing", s.place(), -1);
        s.faults("if", 4, 0);
    }

    private static void characterBeforeAText() {
        Session.sentence("NONE when there is none.");
        Session s = new Session();
        for (int k = -1; k <= 1; k++) {
            Session.due("character(" + k + ") of a new object", s.character(k), -1);
        }
        s.type("xyz");
        Session.due("character(0) with a typed text", s.character(0), -1);
        Session.due("means", s.means(), 0);
        for (int fault = 1; fault <= 6; fault++) {
            faultEach(s, fault);
            Session.due("character(0) after fault " + fault, s.character(0), -1);
        }
        s.tells("x", "x");
    }

    private static void meansBeforeAnythingIsTyped() {
        Session.sentence("NONE when it is not one symbol.");
        Session s = new Session();
        Session.due("means of nothing", s.means(), -1);
        s.means("x", 0);
    }

    private static void checkBeforeAText() {
        Session.sentence("1, also before any");
        Session s = new Session();
        Session.due("check of a new object", s.check(), 1);
        s.type("((");
        Session.due("check with a typed text", s.check(), 1);
        Session.due("read", s.read(), 1);
        for (int fault = 1; fault <= 6; fault++) {
            faultEach(s, fault);
            Session.due("check after fault " + fault, s.check(), 1);
        }
        Session.due("read of nothing", s.read(), 0);
        Session.due("check of nothing told", s.check(), 1);
    }

    private static void objectsShareNothing() {
        Session.sentence("Nothing defined.");
        Session one = new Session();
        one.type("(");
        Session other = new Session();
        Session.due("what is typed in another object", other.type('a', 1), 1);
        Session.due("means", other.means(), 0);
        Session.due("means", one.means(), -1);
        one.tells("(define-syntax m (syntax-rules () ((_) 1))) (m)", "1").means("m", 2);
        other.means("m", 0);
        other.tells("(m)", "(m)").counts(3, 0, 0, 1, 0, 0);
        one.counts(1, 1, 0, 2, 1, 7);
        new Session().means("m", 0).counts(0, 0, 0, 0, 0, 0);
    }
}
