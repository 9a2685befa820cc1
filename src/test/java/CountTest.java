/** Promise 5: what count() tells of the latest text without a fault. */
final class CountTest {
    public static void main(String[] args) {
        Session s = new Session();
        s.counts(0, 0, 0, 0, 0, 0);
        s.faults("()", 3).counts(0, 0, 0, 0, 0, 0);
        s.tells("(define-syntax m (syntax-rules (x) ((_ a ...) (f a ... 1 (quote ())))))", "").counts(0, 0, 0, 1, 1, 17);
        s.tells("(m 1) (m (m) 2) (lambda (a b) (lambda (c) c))",
            "(f 1 1 (quote ())) (f (f 1 (quote ())) 2 1 (quote ())) (lambda (%0 %1) (lambda (%2) %2))");
        s.counts(88, 3, 3, 3, 1, 17);
        s.faults("(m 1 ())", 3).counts(88, 3, 3, 3, 1, 17);
        s.faults("(define m 1) (", 1).counts(88, 3, 3, 3, 1, 17);
        s.tells("(define-syntax m (syntax-rules () ((_) 1)))(define-syntax n (syntax-rules () ((_) 1)))", "");
        s.counts(0, 0, 0, 2, 2, 31);
        s.tells("(define m 1)", "(define m 1)").counts(12, 0, 0, 1, 1, 31);
        s.tells("(define m 1) (define k 2) (define n 3)", "(define m 1) (define k 2) (define n 3)").counts(38, 0, 0, 3, 0, 31);
        s.tells("(let-syntax ((q (syntax-rules () ((_) 1)))) (q))", "1").counts(1, 1, 0, 1, 0, 31);
        s.tells("", "").counts(0, 0, 0, 0, 0, 31);
        for (int what : new int[] {-1, 6, 7, 100, Integer.MIN_VALUE, Integer.MAX_VALUE}) {
            Session.due("count(" + what + ")", s.object().count(what), -1);
        }
        Session.end();
    }
}
