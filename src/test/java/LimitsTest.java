/** Promise 3: fault 2 at its edges, and which fault comes first. */
final class LimitsTest {
    public static void main(String[] args) {
        uses();
        layers();
        madeSize();
        madeNest();
        within();
        toldLength();
        whatStays();
        Session.end();
    }

    private static void uses() {
        Session s = new Session();
        s.tells("(define-syntax m (syntax-rules () ((_) 1)))", "");
        s.tells("(m)".repeat(100), "1 ".repeat(99) + "1").counts(199, 100, 0, 100, 1, 7);
        s.faults("(m)".repeat(101), 2, 100).faults("(m)".repeat(100) + "(m 1)", 2, 100);
        s.faults("(m)".repeat(99) + "(m 1)", 5, 99).faults("(m)".repeat(100) + "()", 3, 100);
        s.tells("(define-syntax r (syntax-rules () ((_ a) (r a))))", "").faults("1 (r 1)", 2, 1);
    }

    private static void layers() {
        String one = "(lambda () 1)";
        Session s = new Session();
        s.tells("(lambda()1)".repeat(250), (one + " ").repeat(249) + one);
        s = new Session();
        s.faults("(lambda()1)".repeat(251), 2, 250);
        s.tells("(define-syntax l (syntax-rules () ((_) (" + "(let-syntax ((k (syntax-rules () ((_) 1)))) 1)".repeat(25) + "))))", "");
        s.counts(0, 0, 0, 1, 1, 6 + 13 * 25 + 1);
        String told = "(" + "1 ".repeat(24) + "1)";
        s.tells("(l)".repeat(10), (told + " ").repeat(9) + told);
        s.faults("(l)".repeat(10) + "(lambda () 1)", 2, 10);
        s.tells("(l)".repeat(9) + "(lambda()1)".repeat(25), (told + " ").repeat(9) + (one + " ").repeat(24) + one);
        s.faults("(l)".repeat(9) + "(lambda()1)".repeat(26), 2, 34);
    }

    private static void madeSize() {
        Session s = new Session();
        s.tells("(define-syntax m (syntax-rules () ((_ a ...) (quote (1 a ... a ...)))))", "");
        s.tells("(m" + " 1".repeat(298) + ")", "(quote (" + "1 ".repeat(596) + "1))");
        s.faults("(m" + " 1".repeat(299) + ")", 2);
        s.tells("(define-syntax n (syntax-rules () ((_ a ...) (quote (1 1 a ... a ...)))))", "");
        s.faults("(n" + " 1".repeat(298) + ")", 2).faults("(n" + " 1".repeat(1000) + ")", 2);
        s = new Session();
        s.tells("(define-syntax z (syntax-rules () ((_ (a ...) b ...) (quote (a ... a ... b ... (a b) ...)))))", "");
        s.faults("(z (" + "1 ".repeat(400) + ") 2)", 6).faults("(z (" + "1 ".repeat(400) + ")" + " 2".repeat(400) + ")", 2);
    }

    private static void madeNest() {
        Session s = new Session();
        s.tells("(define-syntax m (syntax-rules () ((_ a) (quote (a)))))", "");
        s.tells("(m " + lists(59) + ")", "(quote (" + lists(59) + "))").faults("(m " + lists(60) + ")", 2);
        s.tells("(define-syntax n (syntax-rules () ((_ a) (quote " + "(".repeat(40) + "a" + ")".repeat(40) + "))))", "");
        s.tells("(n " + lists(20) + ")", "(quote " + lists(60) + ")").faults("(n " + lists(21) + ")", 2);
        s.tells("(n 1)", "(quote " + "(".repeat(40) + "1" + ")".repeat(40) + ")");
    }

    private static String lists(int n) {
        return "(".repeat(n) + ")".repeat(n);
    }

    private static void within() {
        String rules = "(syntax-rules () ((_ x) x) ((_ x y ...) (d y ...)))";
        Session s = new Session();
        s.tells("(define-syntax d " + rules + ")", "");
        String hundred = "(d" + " 1".repeat(100) + ")";
        s.tells(hundred, "1").counts(1, 100).tells("(f " + hundred + ")", "(f 1)");
        s.faults("(f (f " + hundred + "))", 2).faults("(f (lambda () " + hundred + "))", 2);
        s.tells("(f" + " 1".repeat(99) + " (f 1))", "(f" + " 1".repeat(99) + " (f 1))");
        s = new Session();
        s.tells("(define-syntax d (syntax-rules () ((_ x) (quote x)) ((_ x y ...) (d y ...))))", "");
        s.tells(hundred, "(quote 1)").faults("(f " + hundred + ")", 2).faults("(if 1 2 " + hundred + ")", 2);
        s.faults("(let-syntax ((k (syntax-rules () ((_) 1)))) " + hundred + ")", 2);
        s.tells("(let-syntax ((k (syntax-rules () ((_) 1)))) (d" + " 1".repeat(99) + "))", "(quote 1)");
        // The list of a define is around its form, too.
        s.faults("(define v " + hundred + ")", 2).tells("(define v (d" + " 1".repeat(99) + "))", "(define v (quote 1))");
        s = new Session();
        s.tells("(define-syntax d (syntax-rules () ((_ x) ()) ((_ x y ...) (d y ...))))", "");
        s.faults(hundred, 3).faults("(f " + hundred + ")", 2);
        s = new Session();
        s.tells("(define-syntax w (syntax-rules () ((_ a b ...) (f (f (w b ...)))) ((_) 1)))", "");
        s.tells("(w" + " 1".repeat(33) + ")", "(f (f ".repeat(33) + "1" + "))".repeat(33));
        s.faults("(w" + " 1".repeat(34) + ")", 2);
    }

    private static void toldLength() {
        Session s = new Session();
        s.tells("(define-syntax t (syntax-rules () ((_ a) (quote (" + "a ".repeat(99) + "a)))))", "");
        String name = "abcdefghijkl";
        String told = "(quote (" + (name + " ").repeat(99) + name + "))";
        String text = ("(t " + name + ")").repeat(3);
        String three = told + " " + told + " " + told;
        String rest = (name + " ").repeat(5) + "12345";
        Session.due("characters", three.length() + 1 + rest.length(), 4000);
        s.tells(text + rest, three + " " + rest).counts(4000, 3, 0, 9, 1, 110);
        s.faults(text + rest + "6", 2, 8).faults(text + rest + " 6", 2, 9).faults(text + text, 2, 5);
        s.faults(text + text + " (if)", 3, 6);
        s.faults(text + rest + "6 (define-syntax x (syntax-rules () ((_) 1)))", 2, 9);
        Session.due("means x", s.means("x"), 0);
    }

    private static void whatStays() {
        Session s = new Session();
        s.tells("(define-syntax m (syntax-rules () ((_) 1))) (m) (lambda (x) x)", "1 (lambda (%0) %0)");
        s.counts(18, 1, 1, 3, 1, 7);
        s.faults("(define m 2) (m) ()", 3, 2).tells("(m)", "1");
        s.faults("(define-syntax m (syntax-rules () ((_) 2))) (m) if", 4, 2).tells("(m)", "1");
        s.faults("(define-syntax n (syntax-rules () ((_) 2))) (n 1)", 5, 1).tells("(n)", "(n)");
        s.tells("(define-syntax k (syntax-rules () ((_) 3))) (k) (n) (m)", "3 (n) 1");
        s.faults("(define-syntax new (syntax-rules () ((_) other))) (", 1).tells("(new) (k)", "(new) 3");
    }
}
