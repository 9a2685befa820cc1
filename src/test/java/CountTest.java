/** Promise 5: what count() tells of the latest text without a fault. */
final class CountTest {
    public static void main(String[] args) {
        zeroBeforeOne();
        noneForOthers();
        ordinary();
        sizeOfRules();
        macros();
        ofTheLatestTextWithoutAFault();
        Session.end();
    }

    private static void zeroBeforeOne() {
        Session.sentence("0 each before one");
        Session s = new Session();
        s.counts(0, 0, 0, 0, 0, 0);
        s.faults("()", 3).counts(0, 0, 0, 0, 0, 0);
        s.faults("(define-syntax m (syntax-rules () ((_) 1))) (m) (lambda (x) x) if", 4, 3).counts(0, 0, 0, 0, 0, 0);
        s.tells("1", "1").counts(1, 0, 0, 1, 0, 0);
    }

    private static void noneForOthers() {
        Session.sentence("NONE for others");
        Session s = new Session();
        for (int time = 0; time < 2; time++) {
            for (int what : new int[] {-1, -2, 6, 7, 8, 100, 256, 65536, Integer.MIN_VALUE, Integer.MAX_VALUE}) {
                Session.due("count(" + what + ")", s.count(what), -1);
            }
            s.tells("(define-syntax m (syntax-rules () ((_) 1))) (m) (lambda (x) x)", "1 (lambda (%0) %0)");
            s.counts(18, 1, 1, 3, 1, 7 * (time + 1), -1);
        }
    }

    private static void ordinary() {
        Session.sentence("");
        Session s = new Session();
        s.tells("(define-syntax m (syntax-rules (x) ((_ a ...) (f a ... 1 (quote ())))))", "").counts(0, 0, 0, 1, 1, 17);
        s.tells("(m 1) (m (m) 2) (lambda (a b) (lambda (c) c))",
            "(f 1 1 (quote ())) (f (f 1 (quote ())) 2 1 (quote ())) (lambda (%0 %1) (lambda (%2) %2))");
        s.counts(88, 3, 3, 3, 1, 17);
        s.tells("(let-syntax ((q (syntax-rules () ((_) 1)))) (q))", "1").counts(1, 1, 0, 1, 1, 17);
        s.tells("", "").counts(0, 0, 0, 0, 1, 17);
        s.tells("1 2 (define x 3)", "1 2 (define x 3)").counts(16, 0, 0, 3, 1, 17);
    }

    private static void sizeOfRules() {
        Session.sentence("the size of all rules of define-syntax told so far (5)");
        Session s = new Session();
        s.tells("(define-syntax m (syntax-rules () ((_) 1)))", "").counts(0, 0, 0, 1, 1, 7);
        s.tells("(define-syntax m (syntax-rules () ((_) 1)))(define-syntax n (syntax-rules () ((_) 1)))", "");
        s.counts(0, 0, 0, 2, 2, 21);
        s.tells("(define m 1)", "(define m 1)").counts(12, 0, 0, 1, 1, 21);
        s.tells("(let-syntax ((q (syntax-rules () ((_) 1)))) (q))", "1").counts(1, 1, 0, 1, 1, 21);
        s.tells("(define-syntax k (syntax-rules (a b) ((_ (1 ...) ()) (quote (2 (_ c))))))", "").counts(0, 0, 0, 1, 2, 40);
    }

    private static void macros() {
        Session.sentence("how many symbols are macros (4)");
        Session s = new Session();
        String m = "(define-syntax m (syntax-rules () ((_) 1)))";
        s.tells(m + m, "").counts(0, 0, 0, 2, 1, 14);
        s.tells("(define m 1) (define k 2)", "(define m 1) (define k 2)").counts(25, 0, 0, 2, 0, 14);
        s.tells("(define m 1)" + m, "(define m 1)").counts(12, 0, 0, 2, 1, 21);
        s.tells(m + "(define m 1)", "(define m 1)").counts(12, 0, 0, 2, 0, 28);
        s.tells("(lambda (m) (let-syntax ((k (syntax-rules () ((_) 1)))) (k)))", "(lambda (%0) 1)").counts(15, 1, 1, 1, 0, 28);
    }

    private static void ofTheLatestTextWithoutAFault() {
        Session.sentence("Of the latest text without a fault");
        Session s = new Session();
        s.tells("(define-syntax m (syntax-rules () ((_) 1))) (m) (m) (lambda (x) x)", "1 1 (lambda (%0) %0)");
        s.counts(20, 2, 1, 4, 1, 7);
        s.faults("(m) (lambda (x y) x) (f m)", 4, 2).counts(20, 2, 1, 4, 1, 7);
        s.faults("(define m 1) (", 1).counts(20, 2, 1, 4, 1, 7);
        s.type("(m)");
        s.counts(20, 2, 1, 4, 1, 7);
        Session.due("means", s.means(), -1);
        s.counts(20, 2, 1, 4, 1, 7);
        s.tells("x", "x").counts(1, 0, 0, 1, 1, 7);
    }
}
