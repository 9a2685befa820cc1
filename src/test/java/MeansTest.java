/** Promise 7: what a typed symbol means in the outermost environment. */
final class MeansTest {
    private static final Session S = new Session();

    private static void due(String text, int want) {
        Session.due("means of '" + text + "'", S.means(text), want);
        Session.due("means of an emptied text", S.object().means(), -1);
    }

    public static void main(String[] args) {
        for (String word : new String[] {"lambda", "if", "quote", "let-syntax", "syntax-rules", "define", "define-syntax"}) {
            due(word, 1);
        }
        for (String symbol : new String[] {"a", "...", "_", "%0", "  b  ", "abcdefghijkl", "1a", "Lambda", "lambd", "1234567x"}) {
            due(symbol, 0);
        }
        for (String other : new String[] {"", " ", "1", "007", "1234567", "(", ")", "()", "(a)", "a b", "a(", "a)", ")a",
            "a 1", "abcdefghijklm", "define-syntaxx", "define-syntay"}) {
            due(other, -1);
        }
        due(" if ", 1);
        S.tells("(define-syntax m (syntax-rules () ((_) 1)))", "");
        due("m", 2);
        due(" m", 2);
        due("(m)", -1);
        due("mm", 0);
        S.faults("(define m 1) ()", 3, 1);
        due("m", 2);
        S.tells("(let-syntax ((n (syntax-rules () ((_) 1)))) (lambda (m) (n)))", "(lambda (%0) 1)");
        due("n", 0);
        due("m", 2);
        S.tells("(define m 1)", "(define m 1)");
        due("m", 0);
        S.faults("(define-syntax k (syntax-rules () ((_) 1))) (", 1);
        due("k", 0);
        Session.due("means does not tell", S.told(), "(define m 1)");
        Session.end();
    }
}
