/** Promise 3: of several faults the first one that is met, forms from the left, each before its parts. */
final class OrderTest {
    private static final String ONE = "(syntax-rules () ((_) 1))";

    public static void main(String[] args) {
        fromTheLeft();
        eachBeforeItsParts();
        usesBeforeRules();
        rulesBeforeSize();
        evenBeforeSize();
        sizeBeforeParts();
        withinBeforeTheRest();
        theLengthAtLast();
        Session.end();
    }

    private static void fromTheLeft() {
        Session.sentence("at the first one that is met, forms from the left");
        Session s = new Session();
        s.tells("(define-syntax m " + ONE + ")", "");
        s.faults("() if", 3, 0).faults("if ()", 4, 0).faults("(m 1) ()", 5, 0).faults("() (m 1)", 3, 0);
        s.faults("(f () if)", 3).faults("(f if ())", 4).faults("(f m (m 1))", 4).faults("(f (m 1) m)", 5);
        s.faults("(f (g (h ())) if)", 3).faults("(f (g (h if)) ())", 4).faults("(f (g 1) (h (m 1)) ())", 5);
        s.faults("(if if () 1)", 4).faults("(if () if 1)", 3).faults("(if 1 (m 1) if)", 5);
        s.faults("((m 1) ())", 5).faults("(() (m 1))", 3).faults("(() if)", 3);
        s.faults("1 2 (f lambda) () 3", 4, 2).faults("(define x if) ()", 4, 0).faults("(define if 1) if", 3, 0);
        s.faults("(define-syntax k 1) if", 3, 0).faults("if (define-syntax k 1)", 4, 0);
        Session.sentence("4 a name that means a word or macro is expanded itself");
        s.faults("m", 4).faults("(f m)", 4).faults("(1 lambda)", 4).faults("syntax-rules", 4).faults("let-syntax", 4);
        s.faults("(lambda (x) quote)", 4).faults("(let-syntax ((k " + ONE + ")) k)", 4).tells("(lambda (if m) (f if m))",
            "(lambda (%0 %1) (f %0 %1))");
        s.tells("define define-syntax ... _", "define define-syntax ... _").tells("(quote (if m))", "(quote (if m))");
    }

    private static void eachBeforeItsParts() {
        Session.sentence("each before its parts");
        Session s = new Session();
        s.tells("(define-syntax m " + ONE + ")", "");
        s.faults("(if if 1)", 3).faults("(if m)", 3).faults("(lambda (x x) if)", 3).faults("(lambda x if)", 3);
        s.faults("(lambda (x) if 1)", 3).faults("(let-syntax () if)", 3).faults("(let-syntax ((k 1)) if)", 3);
        s.faults("(let-syntax ((k (syntax-rules () ((_ a a) 1)))) (m 1))", 3).faults("(let-syntax ((k " + ONE + ")) (m 1))", 5);
        s.faults("(m ())", 5).faults("(m if)", 5).faults("(m (m 1))", 5).faults("(define if if)", 3).faults("(define x if 1)", 3);
        s.faults("(define x if)", 4).faults("(define x (m 1))", 5).faults("(syntax-rules if)", 3);
    }

    private static void usesBeforeRules() {
        Session.sentence("with the use that would be more than the 100th");
        Session s = new Session();
        s.tells("(define-syntax m (syntax-rules () ((_) 1) ((_ (a ...) b ...) (quote ((a b) ...)))))", "");
        s.faults("(m)".repeat(99) + "(m 1)", 5, 99).faults("(m)".repeat(100) + "(m 1)", 2, 100);
        s.faults("(m)".repeat(99) + "(m () 1)", 6, 99).faults("(m)".repeat(100) + "(m () 1)", 2, 100);
        s.faults("(m)".repeat(100) + "()", 3, 100).faults("(m)".repeat(100) + "m", 4, 100);
        Session.sentence("the lambda or let-syntax that would be more than the 250th");
        s = new Session();
        s.tells("(define-syntax l (syntax-rules () ((_) (" + "(lambda () 1)".repeat(125) + "))))", "");
        s.faults("(l)(l)(lambda 1)", 2, 2).faults("(l)(l)(let-syntax)", 2, 2).faults("(l)(l)(let-syntax () 1)", 2, 2).faults("(l)(l)(if)", 3, 2);
        s.faults("(l)(l)(lambda () if)", 2, 2).faults("(l)(l)if", 4, 2);
    }

    private static void rulesBeforeSize() {
        Session.sentence("5 no rule matches");
        Session s = new Session();
        s.tells("(define-syntax m (syntax-rules () ((_ 1 a ...) (quote (a ... a ...))) ((_ 2 (a ...) b ...) (quote ((a b) ...)))))", "");
        s.faults("(m 3" + " 1".repeat(400) + ")", 5).faults("(m 1" + " 1".repeat(400) + ")", 2).faults("(m)", 5);
        s.faults("(m 2 1)", 5).faults("(m 2 (1))", 6).faults("(m 2)", 5);
    }

    private static void evenBeforeSize() {
        Session.sentence("6 .. matched not the same number of forms (before the size is looked at)");
        Session s = new Session();
        s.tells("(define-syntax z (syntax-rules () ((_ (a ...) b ...) (quote (a ... a ... b ... (a b) ...)))))", "");
        s.faults("(z (" + "1 ".repeat(400) + ") 2)", 6).faults("(z (" + "1 ".repeat(400) + ")" + " 2".repeat(400) + ")", 2);
        s = new Session();
        String deep = "(".repeat(59) + ")".repeat(59);
        s.tells("(define-syntax y (syntax-rules () ((_ (a ...) b ...) (quote (((a)) ... (a b) ...)))))", "");
        s.faults("(y (" + deep.substring(1, deep.length() - 1) + ") 1 2)", 6).faults("(y (" + deep.substring(1, deep.length() - 1) + ") 1)", 2);
    }

    private static void sizeBeforeParts() {
        Session.sentence("each before its parts");
        Session s = new Session();
        s.tells("(define-syntax m (syntax-rules () ((_ a ...) (f () a ... a ...))))", "");
        s.faults("(m 1)", 3).faults("(m" + " 1".repeat(400) + ")", 2);
        s.tells("(define-syntax n (syntax-rules () ((_ a) (if (a)))))", "");
        String deep = "(".repeat(59) + ")".repeat(59);
        s.faults("(n " + deep + ")", 3).faults("(n (" + deep + "))", 2);
    }

    private static void withinBeforeTheRest() {
        Session.sentence("a list that would be expanded within more than 100 others");
        Session s = new Session();
        s.tells("(define-syntax d (syntax-rules () ((_ x) x) ((_ x y ...) (d y ...))))", "");
        String before = "(f (d" + " 1".repeat(99) + " ";
        // Each of these is within 101 lists.
        s.faults(before + "()))", 2).faults(before + "(if)))", 2).faults(before + "(d)))", 2).faults(before + "(f)))", 2);
        s.faults(before + "if))", 4).tells(before + "1))", "(f 1)");
        s = new Session();
        s.tells("(define-syntax d (syntax-rules () ((_ x) x) ((_ x y ...) (d y ...))))", "");
        before = "(f (d" + " 1".repeat(98) + " ";
        s.faults(before + "()))", 3).faults(before + "(if)))", 3).tells(before + "(f)))", "(f (f))");
    }

    private static void theLengthAtLast() {
        Session.sentence("At last, as the last top form's, 2, if more than 4000 characters would be told.");
        Session s = new Session();
        s.tells("(define-syntax t (syntax-rules () ((_ a) (quote (" + "a ".repeat(500) + ")))))", "");
        String much = "(t abcdefghijkl)";
        s.faults(much, 2, 0).faults(much + "1", 2, 1).faults("1" + much + "1 2", 2, 3);
        s.faults(much + "(define-syntax k " + ONE + ")", 2, 1).faults(much + "if", 4, 1).faults(much + "(f ())", 3, 1);
        s.faults(much + "(t)", 5, 1).faults("if" + much, 4, 0).faults("(f " + much + "())", 3, 0);
    }
}
