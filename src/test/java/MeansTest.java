/** Promise 7: what a typed symbol means in the outermost environment. */
final class MeansTest {
    private static final String M = "(define-syntax m (syntax-rules () ((_) 1)))";

    public static void main(String[] args) {
        words();
        justItself();
        macros();
        notOneSymbol();
        textIsEmptyThen();
        changesNothing();
        Session.end();
    }

    private static void words() {
        Session.sentence("1 a word (define and define-syntax, too)");
        Session s = new Session();
        for (String word : new String[] {"lambda", "if", "quote", "let-syntax", "syntax-rules", "define", "define-syntax"}) {
            s.means(word, 1).means(" " + word + "  ", 1);
        }
    }

    private static void justItself() {
        Session.sentence("0 just itself");
        Session s = new Session();
        for (String symbol : new String[] {"a", "...", "_", "%0", "  b  ", "abcdefghijkl", "1a", "a1", "Lambda", "lambd",
            "lambdas", "iff", "1234567x", "12345678901x", "-1", "....", "..", "__", "define-synta", "defin"}) {
            s.means(symbol, 0);
        }
    }

    private static void macros() {
        Session.sentence("2 a macro");
        Session s = new Session();
        s.tells(M, "").means("m", 2).means(" m ", 2).means("mm", 0).means("M", 0);
        s.faults("(define m 1) ()", 3, 1).means("m", 2);
        s.tells("(let-syntax ((n (syntax-rules () ((_) 1)))) (lambda (m) (n)))", "(lambda (%0) 1)").means("n", 0).means("m", 2);
        s.tells("(define m 1)", "(define m 1)").means("m", 0);
        s.faults("(define-syntax k (syntax-rules () ((_) 1))) (", 1).means("k", 0);
        s.faults("(define-syntax k (syntax-rules () ((_) 1))) if", 4, 1).means("k", 0);
        s.tells("(define-syntax abcdefghijkl (syntax-rules () ((_) 1)))", "").means("abcdefghijkl", 2);
        s.means("abcdefghijk", 0).means("abcdefghijkm", 0).means("abcdefgh", 0);
    }

    private static void notOneSymbol() {
        Session.sentence("NONE when it is not one symbol.");
        Session s = new Session();
        s.tells(M, "");
        for (String other : new String[] {"", " ", "1", "007", "123456", "1234567", "123456789012", "(", ")", "()", "(m)",
            "m m", "m if", "m(", "m)", ")m", "(m", "m 1", "1 m", "m ()", "abcdefghijklm", "define-syntaxx",
            "define-syntay", "adefine-syntax", "define-syntax m", "if lambda"}) {
            s.means(other, -1);
        }
        s.means("a".repeat(3000), -1);
        s = new Session();
        s.means(" ".repeat(1500) + "a" + " ".repeat(1499), 0);
        s = new Session();
        s.means(" ".repeat(2999) + "a", 0);
    }

    private static void textIsEmptyThen() {
        Session.sentence("The text is empty then.");
        Session s = new Session();
        s.tells(M, "");
        for (String text : new String[] {"a", "if", "m", "", "1", "(", "a b", "abcdefghijklm"}) {
            s.means(text);
            Session.due("means of an emptied text", s.means(), -1);
            s.means(text);
            s.isEmpty();
        }
        s.means("(");
        s.tells("1", "1");
        s.means("m");
        s.tells("x", "x");
    }

    private static void changesNothing() {
        Session.sentence("What the typed text, one symbol, means");
        Session s = new Session();
        s.tells(M + "(m) (lambda (x) x)", "1 (lambda (%0) %0)");
        for (String text : new String[] {"a", "if", "m", "", "(", M}) {
            s.means(text);
            s.counts(18, 1, 1, 3, 1, 7);
            Session.due("told after means", s.told(), "1 (lambda (%0) %0)");
        }
        s.tells("(m)", "1");
    }
}
