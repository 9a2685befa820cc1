/** Promise 8: whether what was told could be read again, as its brackets tell. */
final class CheckTest {
    private static final String RULES = "(define-syntax m (syntax-rules () ((_ a) (f (f a))) ((_) (define 1 2))))";

    public static void main(String[] args) {
        beforeAny();
        whatWasToldLatest();
        bracketsAlone();
        deepBrackets();
        Session.end();
    }

    private static void due(Session s, int want) {
        Session.due("check() after " + s.told(), s.check(), want);
    }

    private static void beforeAny() {
        Session.sentence("1, also before any");
        Session s = new Session();
        due(s, 1);
        s.faults("(", 1);
        due(s, 1);
        s.faults("1 ()", 3, 1);
        due(s, 1);
        s.tells("", "");
        due(s, 1);
    }

    private static void whatWasToldLatest() {
        Session.sentence("Whether what was told latest, typed and read as one text, would be told just so");
        Session s = new Session();
        s.tells("(lambda (x) (f (g) (quote ((a) ()))))", "(lambda (%0) (f (g) (quote ((a) ()))))");
        due(s, 1);
        s.type(")");
        due(s, 1);
        Session.due("read", s.read(), 1);
        due(s, 1);
        s.tells("1 (2) x", "1 (2) x");
        due(s, 1);
    }

    private static void bracketsAlone() {
        Session.sentence("(Brackets alone are looked at.)");
        Session s = new Session();
        s.tells(RULES, "");
        due(s, 1);
        // What these tell would have a fault, or be too long to be typed, but its brackets are well.
        s.tells("(m)", "(define 1 2)");
        due(s, 1);
        s.tells("%0 (lambda (x) (%0 x))", "%0 (lambda (%0) (%0 %0))");
        due(s, 1);
        s = new Session();
        s.tells("(define-syntax t (syntax-rules () ((_ a) (quote (" + "a ".repeat(199) + ")))))", "");
        String told = "(quote (" + Session.row("abcdefghijkl", 199) + ")) (quote (" + Session.row("abcde", 199) + "))";
        Session.due("more than can be typed", told.length() > 3000, true);
        s.tells("(t abcdefghijkl) (t abcde)", told);
        due(s, 1);
    }

    private static void deepBrackets() {
        Session.sentence("it would tell 0");
        Session s = new Session();
        s.tells(RULES, "");
        s.tells("(m " + lists(59) + ")", lists(61));
        due(s, 1);
        s.tells("(m " + lists(58) + ") (m " + lists(59) + ")", lists(60) + " " + lists(61));
        due(s, 1);
        s.tells("(f (m " + lists(59) + "))", lists(62));
        due(s, 0);
        s.faults("()", 3);
        due(s, 0);
        s.faults("(", 1);
        due(s, 0);
        s.tells("1", "1");
        due(s, 1);
        s.tells("1 (f (m " + lists(59) + ")) 2", "1 " + lists(62) + " 2");
        due(s, 0);
        s.tells("", "");
        due(s, 1);
    }

    private static String lists(int n) {
        return "(f ".repeat(n) + "1" + ")".repeat(n);
    }
}
