/** Promise 4: the top form that had the fault of the latest read(). */
final class PlaceTest {
    private static final String RULES = "(define-syntax m (syntax-rules () ((_) 1) ((_ (a ...) b ...) (quote ((a b) ...)))"
        + " ((_ a) (m a))))";

    public static void main(String[] args) {
        noneWithoutAFault();
        noneWithFault1();
        countsFrom0();
        ofTheLatestRead();
        Session.end();
    }

    private static void noneWithoutAFault() {
        Session.sentence("NONE when it had none");
        Session s = new Session();
        Session.due("place before any read", s.place(), -1);
        s.faults("1 if", 4, 1).tells("1", "1");
        s.faults("1 if", 4, 1).tells("", "");
        s.faults("1 if", 4, 1).tells("   ", "");
        s.faults("1 if", 4, 1).tells("(define x 1) (define-syntax x (syntax-rules () ((_) 1)))", "(define x 1)");
    }

    private static void noneWithFault1() {
        Session.sentence("NONE when it had none, or fault 1.");
        Session s = new Session();
        for (String text : new String[] {"(", ")", "1 2 (", "1 (f", "1 2 )", "1 1234567", "1 2 abcdefghijklm",
            "1 " + "(".repeat(62) + ")".repeat(62)}) {
            s.faults(text, 1, -1).faults("1 if", 4, 1);
        }
        s.faults("() ()", 3, 0).faults("() )", 1, -1);
    }

    private static void countsFrom0() {
        Session.sentence("The number, from 0, of the top form that had the fault");
        Session s = new Session();
        s.tells(RULES, "");
        String[] faulty = {"(m 1)", "()", "if", "(m 1 2)", "(m (1) 2 3)"};
        int[] faults = {2, 3, 4, 5, 6};
        for (int i = 0; i < faulty.length; i++) {
            s.faults(faulty[i], faults[i], 0).faults(faulty[i] + " 1 2", faults[i], 0);
            s.faults("1 " + faulty[i], faults[i], 1).faults("(m) (f (g) 1) " + faulty[i] + " 1", faults[i], 2);
            s.faults("1 2 3 (f (g " + faulty[i] + ")) ()", faults[i], 3);
        }
        s.faults("1 ".repeat(1499) + "if", 4, 1499);
        s = new Session();
        s.faults("(define-syntax m (syntax-rules () ((_) 1))) 1 (define if 1)", 3, 2);
        s.faults("(define x 1) (define-syntax x (syntax-rules () ((_) 1))) x", 4, 2);
        s.faults("(define-syntax x (syntax-rules () ((_) 1))) (define-syntax y 1)", 3, 1);
        s.faults("1 (lambda (x) (lambda (x x) 1)) 2", 3, 1);
    }

    private static void ofTheLatestRead() {
        Session.sentence("of the latest read()");
        Session s = new Session();
        s.faults("1 2 (f if)", 4, 2);
        Session.due("place is asked again", s.place(), 2);
        s.type("(");
        Session.due("place after type", s.place(), 2);
        Session.due("means", s.means(), -1);
        Session.due("place after means", s.place(), 2);
        Session.due("check", s.check(), 1);
        Session.due("count", s.count(0), 0);
        Session.due("character", s.character(0), -1);
        Session.due("place after check, count, character", s.place(), 2);
        s.faults("()", 3, 0).faults("1 ()", 3, 1).faults("()", 3, 0);
    }
}
