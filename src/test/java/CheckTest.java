/** Promise 8: whether what was told could be read again, as its brackets tell. */
final class CheckTest {
    public static void main(String[] args) {
        Session s = new Session();
        due(s, 1);
        s.tells("(lambda (x) (f (g) (quote ((a) ()))))", "(lambda (%0) (f (g) (quote ((a) ()))))");
        due(s, 1);
        s.faults("(", 1);
        due(s, 1);
        s.tells("(define-syntax m (syntax-rules () ((_ a) (f (f a))) ((_) (define 1 2))))", "");
        due(s, 1);
        s.tells("(m)", "(define 1 2)");
        due(s, 1);
        s.tells("(m " + lists(59) + ")", lists(61));
        due(s, 1);
        s.tells("(m " + lists(58) + ") (m " + lists(59) + ")", lists(60) + " " + lists(61));
        due(s, 1);
        s.tells("(f (m " + lists(59) + "))", lists(62));
        due(s, 0);
        s.faults("()", 3);
        due(s, 0);
        s.tells("1", "1");
        due(s, 1);
        Session.end();
    }

    private static void due(Session s, int want) {
        Session.due("check() after " + s.told(), s.object().check(), want);
    }

    private static String lists(int n) {
        return "(f ".repeat(n) + "1" + ")".repeat(n);
    }
}
