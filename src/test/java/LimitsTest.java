/** Promise 3: fault 2, each limit at the last that is fine and at the first that is not, and fault 6. */
final class LimitsTest {
    private static final String ONE = "(syntax-rules () ((_) 1))";

    public static void main(String[] args) {
        usesInAText();
        usesWithinUses();
        lambdas();
        lambdasAndLetSyntaxes();
        sizeOfTemplates();
        sizeOfRepeated();
        sizeOfMatched();
        nestOfMade();
        within();
        withinWords();
        withinTold();
        sizeOfAllRules();
        toldLength();
        unevenRepeats();
        Session.end();
    }

    private static void usesInAText() {
        Session.sentence("2 TOO MUCH: with the use that would be more than the 100th in a text");
        Session s = new Session();
        s.tells("(define-syntax m " + ONE + ")", "");
        s.tells("(m)".repeat(99), Session.row("1", 99)).counts(197, 99, 0, 99, 1, 7);
        s.tells("(m)".repeat(100), Session.row("1", 100)).counts(199, 100, 0, 100, 1, 7);
        s.faults("(m)".repeat(101), 2, 100);
        s.tells("(m)".repeat(100) + "(lambda (m) (m))", Session.row("1", 100) + " (lambda (%0) (%0))");
        s.tells("(m)(m)", "1 1").counts(3, 2);
        s = new Session();
        s.tells("(define-syntax m " + ONE + ")", "");
        s.tells("(f" + "(m)".repeat(50) + ")(define x (g" + "(m)".repeat(50) + "))",
            "(f " + Session.row("1", 50) + ") (define x (g " + Session.row("1", 50) + "))");
        s.faults("(f" + "(m)".repeat(50) + ")(define x (g" + "(m)".repeat(51) + "))", 2, 1);
        s.faults("(let-syntax ((k " + ONE + ")) (f " + "(m)".repeat(50) + "(k)".repeat(51) + "))", 2, 0);
        s.tells("(let-syntax ((k " + ONE + ")) (f " + "(m)".repeat(50) + "(k)".repeat(50) + "))",
            "(f " + Session.row("1", 100) + ")");
    }

    private static void usesWithinUses() {
        Session.sentence("2 TOO MUCH: with the use that would be more than the 100th in a text");
        Session s = new Session();
        s.tells("(define-syntax r (syntax-rules () ((_ a) (r a)) ((_) 1) ((_ a b ...) (r b ...))))", "");
        s.faults("1 (r 1)", 2, 1);
        s = new Session();
        s.tells("(define-syntax d (syntax-rules () ((_) 1) ((_ a b ...) (d b ...))))", "");
        s.tells("(d" + " 1".repeat(99) + ")", "1").counts(1, 100);
        s.faults("(d" + " 1".repeat(100) + ")", 2);
        s.tells("(d" + " 1".repeat(49) + ")(d" + " 1".repeat(49) + ")", "1 1").counts(3, 100);
        s.faults("(d" + " 1".repeat(49) + ")(d" + " 1".repeat(50) + ")", 2, 1);
        s.faults("(d" + " 1".repeat(99) + ")(d)", 2, 1).tells("(d" + " 1".repeat(98) + ")(d)", "1 1");
    }

    private static void lambdas() {
        Session.sentence("the lambda or let-syntax that would be more than the 250th");
        String one = "(lambda () 1)";
        Session s = new Session();
        s.tells("(lambda()1)".repeat(249), Session.row(one, 249));
        new Session().tells("(lambda()1)".repeat(250), Session.row(one, 250));
        new Session().faults("(lambda()1)".repeat(251), 2, 250);
        // The count begins anew with each text.
        s = new Session();
        s.tells("(lambda()1)".repeat(150), Session.row(one, 150)).tells("(lambda()1)".repeat(150), Session.row(one, 150));
        s = new Session();
        s.faults("(lambda()1)".repeat(200) + "()", 3, 200).tells("(lambda()1)".repeat(100), Session.row(one, 100));
    }

    private static void lambdasAndLetSyntaxes() {
        Session.sentence("the lambda or let-syntax that would be more than the 250th");
        String one = "(lambda () 1)";
        Session s = new Session();
        s.tells("(define-syntax l (syntax-rules () ((_) (" + "(let-syntax ((k (syntax-rules () ((_) 1)))) 1)".repeat(25) + "))))", "");
        s.counts(0, 0, 0, 1, 1, 6 + 13 * 25 + 1);
        String told = "(" + Session.row("1", 25) + ")";
        s.tells("(l)".repeat(10), Session.row(told, 10));
        s.faults("(l)".repeat(10) + "(lambda () 1)", 2, 10).faults("(l)".repeat(11), 2, 10);
        s.faults("(l)".repeat(10) + "(let-syntax ((k " + ONE + ")) 1)", 2, 10);
        s.tells("(l)".repeat(9) + "(lambda()1)".repeat(25), Session.row(told, 9) + " " + Session.row(one, 25));
        s.faults("(l)".repeat(9) + "(lambda()1)".repeat(26), 2, 34);
        // Those that are only quoted, or only in rules, are none.
        s.tells("(l)".repeat(10) + "(quote (lambda () 1))", Session.row(told, 10) + " (quote (lambda () 1))");
        s.tells("(l)".repeat(10) + "(define-syntax n (syntax-rules () ((_) (lambda () 1))))", Session.row(told, 10));
        s = new Session();
        s.tells("(define-syntax l (syntax-rules () ((_) (" + "(lambda () 1)".repeat(125) + "))))", "");
        told = "(" + Session.row(one, 125) + ")";
        s.tells("(l)(l)", told + " " + told).faults("(l)(l)(lambda () 1)", 2, 2);
    }

    private static void sizeOfTemplates() {
        Session.sentence("what rules make has a size over 600");
        for (int size = 598; size <= 602; size++) {
            Session s = new Session();
            // The list, quote and its list are three forms more.
            s.tells("(define-syntax m (syntax-rules () ((_) (quote (" + "1 ".repeat(size - 3) + ")))))", "");
            if (size <= 600) {
                s.tells("(m)", "(quote (" + Session.row("1", size - 3) + "))").counts(2 * (size - 3) + 9, 1);
            } else {
                s.faults("(m)", 2).faults("1 (f (m))", 2, 1);
            }
        }
        Session s = new Session();
        s.tells("(define-syntax m (syntax-rules () ((_) (quote (" + "() ".repeat(597) + "x)))))", "");
        s.faults("(m)", 2);
        s = new Session();
        s.tells("(define-syntax m (syntax-rules () ((_) (quote (" + "() ".repeat(596) + "x)))))", "");
        s.tells("(m)", "(quote (" + Session.row("()", 596) + " x))");
        // Only what rules make is looked at.
        s = new Session();
        s.tells("(quote (" + "1 ".repeat(1400) + "))", "(quote (" + Session.row("1", 1400) + "))");
    }

    private static void sizeOfRepeated() {
        Session.sentence("what rules make has a size over 600");
        Session s = new Session();
        s.tells("(define-syntax m (syntax-rules () ((_ a ...) (quote (1 a ... a ...)))))", "");
        s.tells("(m" + " 1".repeat(298) + ")", "(quote (" + Session.row("1", 597) + "))");
        s.faults("(m" + " 1".repeat(299) + ")", 2);
        s = new Session();
        s.tells("(define-syntax n (syntax-rules () ((_ a ...) (quote ((x a) ...)))))", "");
        s.tells("(n" + " 1".repeat(199) + ")", "(quote (" + Session.row("(x 1)", 199) + "))");
        s.faults("(n" + " 1".repeat(200) + ")", 2).faults("(n" + " 1".repeat(1000) + ")", 2);
        s = new Session();
        s.tells("(define-syntax n (syntax-rules () ((_ a ...) (quote (1 1 a ... a ...)))))", "");
        s.faults("(n" + " 1".repeat(298) + ")", 2).tells("(n" + " 1".repeat(297) + ")", "(quote (" + Session.row("1", 596) + "))");
    }

    private static void sizeOfMatched() {
        Session.sentence("what rules make has a size over 600");
        Session s = new Session();
        s.tells("(define-syntax i (syntax-rules () ((_ a) a)))", "");
        s.tells("(i (quote (" + "1 ".repeat(597) + ")))", "(quote (" + Session.row("1", 597) + "))");
        s.faults("(i (quote (" + "1 ".repeat(598) + ")))", 2);
        s = new Session();
        s.tells("(define-syntax q (syntax-rules () ((_ a b) (quote (a b a)))))", "");
        String part = "(" + "1 ".repeat(198) + ")";
        s.tells("(q " + part + " (" + "2 ".repeat(198) + "))", "(quote ((" + Session.row("1", 198) + ") ("
            + Session.row("2", 198) + ") (" + Session.row("1", 198) + ")))");
        s.faults("(q " + part + " (" + "2 ".repeat(199) + "))", 2);
        // What matched is not counted where the template has no place for it.
        s = new Session();
        s.tells("(define-syntax n (syntax-rules () ((_ a ...) 1)))", "").tells("(n" + " 1".repeat(1400) + ")", "1");
    }

    private static String lists(int n) {
        return "(".repeat(n) + ")".repeat(n);
    }

    private static void nestOfMade() {
        Session.sentence("what rules make has a list within more than 60 others");
        Session s = new Session();
        s.tells("(define-syntax m (syntax-rules () ((_ a) (quote (a)))))", "");
        s.tells("(m " + lists(58) + ")", "(quote (" + lists(58) + "))").tells("(m " + lists(59) + ")", "(quote (" + lists(59) + "))");
        s.faults("(m " + lists(60) + ")", 2);
        s.tells("(define-syntax n (syntax-rules () ((_ a) (quote " + "(".repeat(40) + "a" + ")".repeat(40) + "))))", "");
        s.tells("(n " + lists(20) + ")", "(quote " + lists(60) + ")").faults("(n " + lists(21) + ")", 2);
        s.tells("(n 1)", "(quote " + "(".repeat(40) + "1" + ")".repeat(40) + ")");
        s = new Session();
        s.tells("(define-syntax k (syntax-rules () ((_ a ...) (quote (1 (a) ...)))))", "");
        s.tells("(k 1 " + lists(58) + ")", "(quote (1 (1) (" + lists(58) + ")))").faults("(k 1 " + lists(59) + ")", 2);
        // Where the use stands does not count: 61 lists are made here, within 20 others.
        s = new Session();
        s.tells("(define-syntax n (syntax-rules () ((_ a) (quote " + "(".repeat(40) + "a" + ")".repeat(40) + "))))", "");
        s.tells("(f ".repeat(20) + "(n " + lists(20) + ")" + ")".repeat(20),
            "(f ".repeat(20) + "(quote " + lists(60) + ")" + ")".repeat(20));
    }

    private static String hundred(int forms) {
        return "(d" + " 1".repeat(forms) + ")";
    }

    private static void within() {
        Session.sentence("a list that would be expanded within more than 100 others (what a use becomes is within it)");
        Session s = new Session();
        s.tells("(define-syntax d (syntax-rules () ((_ x) x) ((_ x y ...) (d y ...))))", "");
        // The 100th use is within 99 others, and becomes no list.
        s.tells(hundred(100), "1").counts(1, 100).tells("(f " + hundred(100) + ")", "(f 1)");
        s.faults("(f (f " + hundred(100) + "))", 2);
        s.tells("(f" + " 1".repeat(99) + " (f 1))", "(f" + " 1".repeat(99) + " (f 1))");
        s = new Session();
        s.tells("(define-syntax d (syntax-rules () ((_ x) (quote x)) ((_ x y ...) (d y ...))))", "");
        s.tells(hundred(100), "(quote 1)").faults("(f " + hundred(100) + ")", 2);
        s.tells("(f " + hundred(99) + ")", "(f (quote 1))");
        s = new Session();
        s.tells("(define-syntax d (syntax-rules () ((_ x) ()) ((_ x y ...) (d y ...))))", "");
        s.faults(hundred(100), 3).faults("(f " + hundred(100) + ")", 2);
    }

    private static void withinWords() {
        Session.sentence("what a use or let-syntax becomes is within it");
        Session s = new Session();
        s.tells("(define-syntax d (syntax-rules () ((_ x) (quote x)) ((_ x y ...) (d y ...))))", "");
        s.faults("(let-syntax ((k " + ONE + ")) " + hundred(100) + ")", 2);
        s.tells("(let-syntax ((k " + ONE + ")) " + hundred(99) + ")", "(quote 1)");
        s.faults("(if 1 2 " + hundred(100) + ")", 2).tells("(if 1 2 " + hundred(99) + ")", "(if 1 2 (quote 1))");
        s.faults("(lambda () " + hundred(100) + ")", 2).tells("(lambda () " + hundred(99) + ")", "(lambda () (quote 1))");
        // The list of a define is around its form, too.
        s = new Session();
        s.tells("(define-syntax d (syntax-rules () ((_ x) (quote x)) ((_ x y ...) (d y ...))))", "");
        s.faults("(define v " + hundred(100) + ")", 2).tells("(define v " + hundred(99) + ")", "(define v (quote 1))");
        // Lists that are not expanded do not count, be they quoted or bound.
        String deep = "(".repeat(60) + ")".repeat(60);
        s.tells(hundred(60) + "(d " + deep + ")", "(quote 1) (quote " + deep + ")");
        s = new Session();
        s.tells("(define-syntax d (syntax-rules () ((_ x) (quote x)) ((_ x y ...) (d y ...))))", "");
        s.tells("(d" + " 1".repeat(99) + " (((()))))", "(quote (((()))))");
    }

    private static void withinTold() {
        Session.sentence("a list that would be expanded within more than 100 others");
        Session s = new Session();
        s.tells("(define-syntax w (syntax-rules () ((_ a b ...) (f (f (w b ...)))) ((_) 1)))", "");
        s.tells("(w" + " 1".repeat(33) + ")", "(f (f ".repeat(33) + "1" + "))".repeat(33));
        s.faults("(w" + " 1".repeat(34) + ")", 2);
        // 33 times three lists, a use, and this list are 101 lists, one in the other.
        s.tells("(g (w" + " 1".repeat(33) + "))", "(g " + "(f (f ".repeat(33) + "1" + "))".repeat(33) + ")");
        s.faults("(g (g (w" + " 1".repeat(33) + ")))", 2);
    }

    /** More calls are made here than an object is used for: with fewer this limit is not met. */
    private static void sizeOfAllRules() {
        Session.sentence("rules of define-syntax told so far in all texts without a fault would have a size over 4000");
        MacroScopes x = new MacroScopes();
        due(x, rules("a", 1400), 0, -1, 1400);
        due(x, rules("a", 1400) + "()", 3, 1, 1400);
        due(x, rules("b", 1400), 0, -1, 2800);
        due(x, "1 " + rules("c", 1201), 2, 1, 2800);
        due(x, rules("c", 600) + " 1 " + rules("d", 601), 2, 2, 2800);
        Session.due("macros", x.count(4), 2);
        due(x, rules("c", 1193), 0, -1, 3993);
        due(x, rules("d", 8), 2, 0, 3993);
        due(x, rules("d", 7), 0, -1, 4000);
        due(x, rules("e", 7), 2, 0, 4000);
        due(x, "(define d 1) " + rules("d", 7), 2, 1, 4000);
        Session.due("macros", x.count(4), 4);
        // A let-syntax, and rules that are not as they should be, are another thing.
        due(x, "(let-syntax ((e " + ONE + ")) (e)) (d)", 0, -1, 4000);
        due(x, "(define-syntax e (syntax-rules () ((_ a a) 1)))", 3, 0, 4000);
        due(x, "(define d 1)", 0, -1, 4000);
        due(x, rules("e", 7), 2, 0, 4000);
        Session.due("macros", x.count(4), 3);
    }

    private static void due(MacroScopes x, String text, int fault, int place, int size) {
        Session.due("read " + text, Session.read(x, text), fault);
        Session.due("place", x.place(), place);
        Session.due("size of all rules", x.count(5), size);
    }

    /** A top form with rules of a size. */
    private static String rules(String name, int size) {
        String template = size == 7 ? "1" : "(" + "1 ".repeat(size - 7) + ")";
        return "(define-syntax " + name + "(syntax-rules()((_)" + template + ")))";
    }

    private static void toldLength() {
        Session.sentence("At last, as the last top form's, 2, if more than 4000 characters would be told.");
        Session s = new Session();
        s.tells("(define-syntax t (syntax-rules () ((_ a) (quote (" + "a ".repeat(99) + "a)))))", "");
        String name = "abcdefghijkl";
        String told = "(quote (" + Session.row(name, 100) + "))";
        String text = ("(t " + name + ")").repeat(3);
        String three = Session.row(told, 3);
        String rest = (name + " ").repeat(5) + "12345";
        Session.due("characters", three.length() + 1 + rest.length(), 4000);
        String shorter = rest.substring(0, rest.length() - 1);
        s.tells(text + shorter, three + " " + shorter).counts(3999, 3, 0, 9, 1, 110);
        s.tells(text + rest, three + " " + rest).counts(4000, 3, 0, 9, 1, 110);
        s.faults(text + rest + "6", 2, 8).faults(text + rest + " 6", 2, 9).faults(text + text, 2, 5);
        s.faults(text + text + " (if)", 3, 6).faults(text + text + " m if", 4, 7);
        s.faults(text + rest + "6 (define-syntax x " + ONE + ")", 2, 9).means("x", 0);
        s.tells(text + rest + " (define-syntax x " + ONE + ")", three + " " + rest).counts(4000, 3, 0, 10, 2, 117);
        s.faults("(f " + text + "(t " + name + "))", 2, 0);
    }

    private static void unevenRepeats() {
        Session.sentence("6 repeated variables of a form with ... behind it matched not the same number of forms");
        Session s = new Session();
        s.tells("(define-syntax z (syntax-rules () ((_ (a ...) b ...) (quote ((a b) ...)))))", "");
        for (int a = 0; a <= 3; a++) {
            for (int b = 0; b <= 3; b++) {
                String text = "(z (" + "1 ".repeat(a) + ")" + " 2".repeat(b) + ")";
                if (a == b) {
                    s.tells(text, "(quote (" + Session.row("(1 2)", a) + "))");
                } else {
                    s.faults(text, 6).faults("1 (f " + text + ")", 6, 1);
                }
            }
        }
        s = new Session();
        s.tells("(define-syntax y (syntax-rules () ((_ (a ...) b ...) (quote (a ... b ... (a ...) ((b) ...))))))", "");
        s.tells("(y (1 2) 3)", "(quote (1 2 3 (1 2) ((3))))");
        s.tells("(define-syntax x (syntax-rules () ((_ (a ...) (b ...) (c ...)) (quote ((a (1 (b))) ... (c a) ...)))))", "");
        s.tells("(x (1) (2) (3))", "(quote ((1 (1 (2))) (3 1)))").faults("(x (1) (2) (3 4))", 6).faults("(x (1) () (3))", 6);
        s.tells("(x () () ())", "(quote ())");
        // Deep within a template, too.
        s.tells("(define-syntax w (syntax-rules () ((_ (a ...) b ...) (quote (((1 (a b) ...)))))))", "");
        s.tells("(w (1) 2)", "(quote (((1 (1 2)))))").faults("(w (1))", 6);
    }
}
