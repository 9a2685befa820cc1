/** Promise 3: what rules match and what they make. */
final class RulesTest {
    public static void main(String[] args) {
        matching();
        asManyOrMore();
        firstRule();
        literals();
        wordsAsVariables();
        repeats();
        Session.end();
    }

    /** Whether a use of a macro with one rule, whose pattern has these forms behind its first, matches. */
    private static void matches(String pattern, String forms, boolean want) {
        Session s = new Session();
        s.tells("(define-syntax m (syntax-rules () ((_ " + pattern + ") yes)))", "");
        if (want) {
            s.tells("(m " + forms + ")", "yes");
        } else {
            s.faults("(m " + forms + ")", 5);
        }
    }

    private static void matching() {
        Session.sentence("A rule MATCHES a list, if all forms behind the first ones match");
        matches("", "", true);
        matches("", "1", false);
        matches("a", "", false);
        matches("a", "()", true);
        matches("a", "1 2", false);
        matches("_ _", "x (y)", true);
        matches("7", "007", true);
        matches("7", "8", false);
        matches("7", "a", false);
        matches("7", "(7)", false);
        matches("0", "a", false);
        matches("()", "()", true);
        matches("()", "(1)", false);
        matches("()", "1", false);
        matches("(a b)", "(1 2)", true);
        matches("(a b)", "(1)", false);
        matches("(a b)", "(1 2 3)", false);
        matches("(a (1 b))", "(x (1 y))", true);
        matches("(a (1 b))", "(x (2 y))", false);
        matches("a ...", "", true);
        matches("a ...", "1 2 3", true);
        matches("a b ...", "", false);
        matches("a b ...", "1", true);
        matches("1 ...", "1 1 01", true);
        matches("1 ...", "1 1 2", false);
        matches("(a 1) ...", "(x 1) (y 1)", true);
        matches("(a 1) ...", "(x 1) (y 2)", false);
        matches("(a b ...) c", "(1) 2", true);
        matches("(a b ...) c", "() 2", false);
        matches("(a b ...) c", "(1 2 3)", false);
    }

    private static void asManyOrMore() {
        Session.sentence("with ... at the end, of as many or more as are before the form in front of ...");
        for (int before = 0; before <= 3; before++) {
            String pattern = "_ ".repeat(before) + "a ...";
            for (int forms = 0; forms <= 6; forms++) {
                matches(pattern, "1 ".repeat(forms), forms >= before);
                matches("(" + pattern + ") 2", "(" + "1 ".repeat(forms) + ") 2", forms >= before);
                matches("((" + pattern + "))", "((" + "1 ".repeat(forms) + "))", forms >= before);
                matches("_ ".repeat(before), "1 ".repeat(forms), forms == before);
                matches("(" + "_ ".repeat(before) + ")", "(" + "1 ".repeat(forms) + ")", forms == before);
            }
        }
        Session.sentence("which matches each of the others");
        matches("1 2 ...", "1", true);
        matches("1 2 ...", "1 2 2 2", true);
        matches("1 2 ...", "2 2", false);
        matches("1 2 ...", "1 2 2 1", false);
        matches("1 2 ...", "1 1 2 2", false);
        matches("(a 1) ...", "(x 1) (y 1)", true);
        matches("(a 1) ...", "(x 1) (y 2)", false);
        matches("(a 1) ...", "(x 1) 1", false);
    }

    private static void firstRule() {
        Session.sentence("The first rule that matches");
        Session s = new Session();
        s.tells("(define-syntax m (syntax-rules () ((_ 1 a) (one a)) ((_ a 1) (two a)) ((_ a ...) (many a ...))))", "");
        s.tells("(m 1 1) (m 2 1) (m 2 2) (m) (m 1)", "(one 1) (two 2) (many 2 2) (many) (many 1)");
        s.tells("(define-syntax n (syntax-rules () ((a b) (a b)) ((... b c) (b c))))", "").faults("(a (n 1 2 3))", 5);
        s.tells("(n 1 2)", "(1 2)").faults("(n)", 5).tells("(lambda (a) (n 5))", "(lambda (%0) (a 5))");
    }

    private static void literals() {
        Session.sentence("a literal a name with the same meaning, in the use's environment, as it has in the macro's");
        Session s = new Session();
        s.tells("(define-syntax m (syntax-rules (else if x) ((_ else) 1) ((_ if) 2) ((_ (x ...)) 3) ((_ a) 4)))", "");
        s.tells("(m else) (m if) (m (x x)) (m ()) (m (x y)) (m y) (m 1)", "1 2 3 3 4 4 4");
        s.tells("(lambda (else if) ((m else) (m if)))", "(lambda (%0 %1) (4 4))");
        s.tells("(define-syntax t (syntax-rules () ((_ a) (m else)) ((_) (lambda (else) (m else)))))", "");
        s.tells("(t 1) (t) (lambda (else) (t 1))", "1 (lambda (%0) 4) (lambda (%1) 1)");
        s.tells("(lambda (v) (let-syntax ((k (syntax-rules (v) ((_ v) 1) ((_ a) 2)))) ((k v) (lambda (v) (k v)) (k w))))",
            "(lambda (%0) (1 (lambda (%1) 2) 2))");
        s.tells("(define-syntax else (syntax-rules () ((_) 1)))", "").tells("(m else)", "1");
        s.tells("(let-syntax ((else (syntax-rules () ((_) 1)))) (m else))", "4");
        s.tells("(let-syntax ((e (syntax-rules () ((_) 1))) (k (syntax-rules (e) ((_ e) 1) ((_ a) 2)))) ((k e) (k m)))", "(1 2)");
        s.tells("(define-syntax p (syntax-rules (lit) ((_ lit) (quote lit)) ((_ a) (lambda (lit) (p lit)))))", "");
        s.tells("(p lit)", "(quote lit)").faults("(p 1)", 2);
        s.tells("(define-syntax c (syntax-rules () ((_ n) (let-syntax ((k (syntax-rules (n) ((_ n) 1) ((_ a) 2)))) "
            + "((k n) (k z))))))", "");
        s.tells("(c z) (c y) (lambda (z) (c z))", "(1 1) (1 2) (lambda (%0) (1 2))");
    }

    private static void wordsAsVariables() {
        Session.sentence("In a pattern a name is a literal, if it is one of these, or _, or a VARIABLE");
        Session s = new Session();
        s.tells("(define-syntax m (syntax-rules () ((_ syntax-rules if) (quote (if syntax-rules quote)))))", "");
        s.tells("(m 1 2) (m if x)", "(quote (2 1 quote)) (quote (x if quote))");
        s.tells("(define-syntax n (syntax-rules (lambda) ((_ lambda) 1) ((_ m) (quote m)) ((_ quote define) (f quote define))))", "");
        s.tells("(n lambda) (n m) (n 1) (n 2 3)", "1 (quote m) (quote 1) (f 2 3)");
    }

    private static void repeats() {
        Session.sentence("a form with ... behind told as often as its repeated variables matched");
        Session s = new Session();
        s.tells("(define-syntax m (syntax-rules () ((_ (a b) ...) (quote (b ... (a x b) ... (a ...))))))", "");
        s.tells("(m) (m (1 2)) (m (1 2) (3 (4)))", "(quote (())) (quote (2 (1 x 2) (1))) (quote (2 (4) (1 x 2) (3 x (4)) (1 3)))");
        s.tells("(define-syntax z (syntax-rules () ((_ (a ...) b ...) (quote ((a b) ...)))))", "");
        s.tells("(z (1 2) 3 4) (z ())", "(quote ((1 3) (2 4))) (quote ())");
        s.faults("(z (1 2) 3)", 6).faults("(z () 3)", 6).faults("(z (1))", 6).faults("1 (f (z (1) 2 3))", 6, 1);
        s.tells("(define-syntax y (syntax-rules () ((_ (a ...) (b ...) c) (quote ((a c) ... (c b (b)) ...)))))", "");
        s.tells("(y (1) (2 3) 4)", "(quote ((1 4) (4 2 (2)) (4 3 (3))))");
        s.tells("(define-syntax w (syntax-rules () ((_ (a (b c)) ...) (quote ((c b a) ...)))))", "");
        s.tells("(w (1 (2 3)) (4 (5 6)))", "(quote ((3 2 1) (6 5 4)))");
        s.tells("(define-syntax p (syntax-rules () ((_ (a b c) ...) (quote (a ... b ... c ...)))))", "");
        s.tells("(define-syntax q (syntax-rules () ((_ a b c d ...) (quote ((a b c d) ...)))))", "");
        s.tells("(p (1 2 3) (4 5 6)) (q 1 2 3 4 5 6)", "(quote (1 4 2 5 3 6)) (quote ((1 2 3 4) (1 2 3 5) (1 2 3 6)))");
        s.tells("(define-syntax let (syntax-rules () ((_ ((n v) ...) e) ((lambda (n ...) e) v ...))))", "");
        s.tells("(let ((x 1) (y 2)) (x y))", "((lambda (%0 %1) (%0 %1)) 1 2)").faults("(let ((x 1) (x 2)) 3)", 3);
        s.tells("(define-syntax g (syntax-rules () ((_ d) (let-syntax ((k (syntax-rules () ((_ a d) (quote (a d)))))) (k 1 2)))))", "");
        s.tells("(g ...) (g e)", "(quote (1 2)) (quote (1 2))");
        s.tells("(define-syntax i (syntax-rules () ((_ x ...) (quote ((x tmp) ...)))))", "").tells("(i 1 2)", "(quote ((1 tmp) (2 tmp)))");
        s.tells("(define-syntax j (syntax-rules () ((_ x ...) (lambda (tmp) (f (x tmp) ...)))))", "");
        s.tells("(j 1 tmp)", "(lambda (%0) (f (1 %0) (tmp %0)))");
    }
}
