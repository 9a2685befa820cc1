/** Promise 3: words, names and environments. */
final class ExpandTest {
    public static void main(String[] args) {
        words();
        variables();
        topForms();
        unfitForms();
        meanings();
        aliases();
        boundMacros();
        Session.end();
    }

    private static void words() {
        Session s = new Session();
        s.tells("(if a 1 (f))", "(if a 1 (f))");
        s.tells("(quote x)", "(quote x)").tells("(quote (if 01 () (lambda)))", "(quote (if 1 () (lambda)))");
        s.tells("(quote ())", "(quote ())").tells("(lambda () 1)", "(lambda () 1)");
        s.tells("(f) ((f)) (1 2)", "(f) ((f)) (1 2)");
        s.tells("... _ (... _)", "... _ (... _)");
        s.tells("(1 define define-syntax (define 1) (define-syntax))", "(1 define define-syntax (define 1) (define-syntax))");
        s.tells("(lambda (x) (quote x))", "(lambda (%0) (quote x))");
    }

    private static void variables() {
        Session s = new Session();
        s.tells("(lambda (a b) (a b c))", "(lambda (%0 %1) (%0 %1 c))").counts(26, 0, 2, 1);
        s.tells("(lambda (a) a) (lambda (a) a)", "(lambda (%0) %0) (lambda (%1) %1)");
        s.tells("(lambda (a b c d e f) (f e d c b a))", "(lambda (%0 %1 %2 %3 %4 %5) (%5 %4 %3 %2 %1 %0))");
        s.tells("(lambda (x) (lambda (x) x))", "(lambda (%0) (lambda (%1) %1))");
        s.tells("((lambda (x) x) x)", "((lambda (%0) %0) x)");
        s.tells("(lambda (if lambda quote) (if lambda quote))", "(lambda (%0 %1 %2) (%0 %1 %2))");
        s.tells("(lambda (define) (define define 1))", "(lambda (%0) (%0 %0 1))");
        s.tells("(lambda (x) %0)", "(lambda (%0) %0)");
        s.tells("(lambda (a) (a ... _))", "(lambda (%0) (%0 ... _))");
        s.faults("(lambda (a a) 1)", 3).faults("(lambda (a 1) 1)", 3).faults("(lambda ((a)) 1)", 3);
        s.faults("(lambda (_) 1)", 3).faults("(lambda (a ...) 1)", 3).faults("(lambda (a b c d e f g) 1)", 3);
        s.faults("(lambda a 1)", 3).faults("(lambda (a))", 3).faults("(lambda (a) 1 2)", 3).faults("(lambda)", 3);
    }

    private static void topForms() {
        Session s = new Session();
        s.tells("(define x 1) x (define y (lambda (z) z))", "(define x 1) x (define y (lambda (%0) %0))");
        s.tells("(define-syntax m (syntax-rules () ((_ a) (f a))))", "").counts(0, 0, 0, 1, 1, 10);
        s.tells("1 (define-syntax n (syntax-rules () ((_) 1))) 2", "1 2").counts(3, 0, 0, 3, 2, 17);
        s.tells("(define m (m m2)) (m 1)", "(define m (f m2)) (m 1)").counts(23, 1, 0, 2, 1, 17);
        s.tells("(define-syntax m (syntax-rules () ((_) 1))) (define m (f (g) (m) ((m) (m)))) (m)", "(define m (f (g) 1 (1 1))) (m)");
        s.tells("(define m 1) (define-syntax m (syntax-rules () ((_) 1))) (f) (m)", "(define m 1) (f) 1");
        s.tells("(define m 1)", "(define m 1)").counts(12, 0, 0, 1, 1, 31);
        s = new Session();
        s.tells("(define-syntax n (syntax-rules () ((_) 1)))", "").counts(0, 0, 0, 1, 1, 7);
        s.tells("(define-syntax n (syntax-rules () ((_) 2))) (n)", "2").counts(1, 1, 0, 2, 1, 14);
        s.tells("(n) (define n 1) (n) (define-syntax n (syntax-rules () ((_) 3))) (n)", "2 (define n 1) (n) 3");
        for (String name : new String[] {"if", "lambda", "quote", "let-syntax", "syntax-rules", "define",
            "define-syntax", "...", "_", "1", "()", "(f)"}) {
            s.faults("1 (define " + name + " 1)", 3, 1);
            s.faults("1 2 (define-syntax " + name + " (syntax-rules () ((_) 1)))", 3, 2);
        }
        s.faults("(define)", 3).faults("(define x)", 3).faults("(define x 1 2)", 3).faults("(define (f) 1)", 3);
        s.faults("(define-syntax)", 3).faults("(define-syntax x)", 3).faults("(define-syntax x 1)", 3);
        s.faults("(define-syntax x (syntax-rules () ((_) 1)) 2)", 3);
        s.faults("(define x if)", 4).faults("(define x ())", 3);
        s.tells("(define-syntax d (syntax-rules () ((_ n v) (define n v)))) (d e 1)", "(define e 1)").faults("(d d 1)", 4);
    }

    private static void unfitForms() {
        Session s = new Session();
        s.faults("()", 3).faults("(f ())", 3).faults("(())", 3);
        s.faults("(if 1 2)", 3).faults("(if 1 2 3 4)", 3).faults("(if)", 3);
        s.faults("(quote)", 3).faults("(quote 1 2)", 3);
        s.faults("(syntax-rules () ((_) 1))", 3).faults("(syntax-rules)", 3);
        s.faults("if", 4).faults("(f if)", 4).faults("(if lambda 1 2)", 4).faults("(1 syntax-rules)", 4);
        s.faults("(f if ())", 4).faults("(f () if)", 3).faults("(if () 1)", 3);
        s.faults("1 2 (f lambda) ()", 4, 2);
        s.tells("(define-syntax m (syntax-rules () ((_) 1)))", "");
        s.faults("m", 4).faults("(f m)", 4).faults("(f m ())", 4).faults("(m 1)", 5);
        s.tells("(lambda (m) (m m 1))", "(lambda (%0) (%0 %0 1))");
    }

    private static void meanings() {
        Session s = new Session();
        s.tells("(define-syntax or2 (syntax-rules () ((_ a b) ((lambda (t) (if t t b)) a))))", "");
        s.tells("(lambda (t) (or2 5 t))", "(lambda (%0) ((lambda (%1) (if %1 %1 %0)) 5))");
        s.tells("(lambda (if) (or2 if 1))", "(lambda (%0) ((lambda (%1) (if %1 %1 1)) %0))");
        s.tells("(lambda (lambda) (or2 lambda t))", "(lambda (%0) ((lambda (%1) (if %1 %1 t)) %0))");
        s.tells("(or2 (or2 t 1) t)", "((lambda (%0) (if %0 %0 t)) ((lambda (%1) (if %1 %1 1)) t))");
        s.tells("(define-syntax g (syntax-rules () ((_) (f x))))", "");
        s.tells("(lambda (f x) (g))", "(lambda (%0 %1) (f x))");
        s.tells("(define-syntax f (syntax-rules () ((_ a) (quote (a f)))))", "");
        s.tells("(lambda (f x) (g))", "(lambda (%0 %1) (quote (x f)))");
        s.tells("(define f 1) (g)", "(define f 1) (f x)");
    }

    private static void aliases() {
        Session s = new Session();
        s.tells("(define-syntax b (syntax-rules () ((_ v e) (lambda (x v) (x v e y)))))", "");
        s.tells("(b x x)", "(lambda (%0 %1) (%0 %1 %1 y))").tells("(b y x)", "(lambda (%0 %1) (%0 %1 x y))");
        s.faults("(b 1 2)", 3);
        s.tells("(define-syntax two (syntax-rules () ((_ n) (lambda (n n) 1))))", "").faults("(two a)", 3);
        s.tells("(define-syntax q (syntax-rules () ((_ a) (quote (a b (c _))))))", "");
        s.tells("(q x) (q (q y))", "(quote (x b (c _))) (quote ((q y) b (c _)))");
        s.tells("(define-syntax u (syntax-rules () ((_) (f _))))", "").tells("(u)", "(f _)");
        s.tells("(define-syntax l (syntax-rules () ((_) (lambda (_) 1))))", "").faults("(l)", 3);
        s.tells("(define-syntax w (syntax-rules () ((_) (lambda (lambda) (lambda 1)))))", "").tells("(w)", "(lambda (%0) (%0 1))");
        s.tells("(define-syntax nest (syntax-rules () ((_ 0 e ...) (e ...)) "
            + "((_ 1 e ...) (lambda (x) (nest 0 x e ...))) ((_ 2 e ...) (lambda (x) (nest 1 x e ...)))))", "");
        s.tells("(nest 2 x)", "(lambda (%0) (lambda (%1) (%1 %0 x)))").counts(37, 3, 2);
    }

    private static void boundMacros() {
        Session s = new Session();
        s.tells("(let-syntax ((m (syntax-rules () ((_ a) (f a))))) (m (m 1)))", "(f (f 1))").counts(9, 2, 0, 1, 0, 0);
        s.tells("(m 1)", "(m 1)");
        s.tells("(lambda (x) (let-syntax ((m (syntax-rules () ((_) x)))) (lambda (x) (m))))", "(lambda (%0) (lambda (%1) %0))");
        s.tells("(let-syntax ((a (syntax-rules () ((_) (b 1)))) (b (syntax-rules () ((_ x) (c x))))) (a))", "(c 1)");
        s.tells("(let-syntax ((r (syntax-rules () ((_) 0) ((_ x y ...) (f (r y ...)))))) (r 1 2 3))", "(f (f (f 0)))");
        s.tells("(let-syntax ((if (syntax-rules () ((_ a) a)))) (if 1))", "1");
        s.tells("(let-syntax ((m (syntax-rules () ((_) 1)))) (let-syntax ((m (syntax-rules () ((_ a) a)))) (m 2)))", "2");
        s.tells("(let-syntax ((x (syntax-rules () ((_) 1)))) (lambda (x) x))", "(lambda (%0) %0)");
        s.faults("(let-syntax ((m (syntax-rules () ((_) 1)))) m)", 4);
        s.faults("(let-syntax ((syntax-rules (syntax-rules () ((_) 1)))) 1)", 3);
        s.faults("(let-syntax ((m (syntax-rules () ((_) 1))) (syntax-rules (syntax-rules () ((_) 1)))) 1)", 3);
        s.faults("(lambda (syntax-rules) (let-syntax ((m (syntax-rules () ((_) 1)))) (m)))", 3);
        s.faults("(let-syntax ((m (syntax-rules () ((_) 1))) (m (syntax-rules () ((_) 1)))) 1)", 3);
        s.faults("(let-syntax () 1)", 3).faults("(let-syntax m 1)", 3).faults("(let-syntax ((m)) 1)", 3);
        s.faults("(let-syntax (m) 1)", 3).faults("(let-syntax ((1 (syntax-rules () ((_) 1)))) 1)", 3);
        s.faults("(let-syntax ((_ (syntax-rules () ((_) 1)))) 1)", 3);
        s.faults("(let-syntax ((m (syntax-rules () ((_) 1)) 2)) 1)", 3);
        s.faults("(let-syntax ((m (syntax-rules () ((_) 1)))))", 3);
        s.faults("(let-syntax ((m (syntax-rules () ((_) 1)))) 1 2)", 3);
        s.tells(lets(6), "1").faults(lets(7), 3);
        s.tells("(let-syntax ((m (syntax-rules () ((_ s) (let-syntax ((k (s () ((_ a) (f a))))) (k 1)))))) (m syntax-rules))", "(f 1)");
    }

    private static String lets(int n) {
        StringBuilder text = new StringBuilder("(let-syntax (");
        for (int i = 0; i < n; i++) {
            text.append("(m").append(i).append(" (syntax-rules () ((_) 1)))");
        }
        return text.append(") (m0))").toString();
    }
}
