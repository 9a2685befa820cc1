/** Promise 3: how many names, literals and rules there may be, and which; fault 3 beyond. */
final class ShapesTest {
    private static final String ONE = "(syntax-rules () ((_) 1))";

    public static void main(String[] args) {
        emptyLists();
        wordsWant();
        lambdaNames();
        letSyntaxNames();
        literalCount();
        ruleCount();
        patternsAreLists();
        variablesComeOnce();
        dotsInPatterns();
        dotsInTemplates();
        definedSymbols();
        Session.end();
    }

    private static void emptyLists() {
        Session.sentence("3 a list that is empty");
        Session s = new Session();
        s.faults("()", 3).faults("1 ( )", 3, 1).faults("(f ())", 3).faults("(())", 3).faults("(if 1 () 2)", 3);
        s.faults("(lambda () ())", 3).faults("(define x ())", 3).faults("(let-syntax ((m " + ONE + ")) ())", 3);
        s.tells("(define-syntax m (syntax-rules () ((_) ()) ((_ a) (quote a))))", "").faults("(m)", 3);
        s.tells("(m ())", "(quote ())").tells("(quote ()) (quote (()))", "(quote ()) (quote (()))");
        s.tells("(lambda () 1)", "(lambda () 1)").tells("(f)", "(f)").tells("((f))", "((f))");
    }

    private static void wordsWant() {
        Session.sentence("3 a list that is not as its word wants");
        Session s = new Session();
        s.faults("(if)", 3).faults("(if 1)", 3).faults("(if 1 2)", 3).faults("(if 1 2 3 4)", 3).tells("(if 1 2 3)", "(if 1 2 3)");
        s.faults("(quote)", 3).faults("(quote 1 2)", 3).tells("(quote 1)", "(quote 1)");
        s.faults("(lambda)", 3).faults("(lambda ())", 3).faults("(lambda () 1 2)", 3).faults("(lambda 1 ())", 3);
        s.faults("(let-syntax)", 3).faults("(let-syntax ((m " + ONE + ")))", 3);
        s.faults("(let-syntax ((m " + ONE + ")) 1 2)", 3).tells("(let-syntax ((m " + ONE + ")) 1)", "1");
        s.faults("(let-syntax ((m " + ONE + ") ()) 1)", 3).faults("(let-syntax ((m)) 1)", 3).faults("(let-syntax (m) 1)", 3);
        s.faults("(let-syntax ((m " + ONE + " 2)) 1)", 3).faults("(let-syntax ((m 1)) 1)", 3);
        Session.sentence("with syntax-rules it is not as its word wants: 3");
        s.faults("(syntax-rules)", 3).faults(ONE, 3).faults("(f (syntax-rules 1))", 3);
        s.tells("(lambda (syntax-rules) (syntax-rules))", "(lambda (%0) (%0))");
    }

    private static final String[] NAMES = {"a", "b", "c", "d", "e", "f", "g", "h"};

    /** n texts, each made of one name. */
    private static String each(int n, String before, String behind) {
        StringBuilder text = new StringBuilder();
        for (int i = 0; i < n; i++) {
            text.append(i == 0 ? "" : " ").append(before).append(NAMES[i]).append(behind);
        }
        return text.toString();
    }

    private static void lambdaNames() {
        Session.sentence("up to 6 different names");
        Session s = new Session();
        String[] told = {"", "%0", "%0 %1", "%0 %1 %2", "%0 %1 %2 %3", "%0 %1 %2 %3 %4", "%0 %1 %2 %3 %4 %5"};
        for (int n = 0; n <= 6; n++) {
            s.tells("(lambda (" + each(n, "", "") + ") 1)", "(lambda (" + told[n] + ") 1)");
            Session.due("count(2)", s.count(2), n);
        }
        s.faults("(lambda (" + each(7, "", "") + ") 1)", 3).faults("(lambda (" + each(8, "", "") + ") 1)", 3);
        s.faults("(lambda (a a) 1)", 3).faults("(lambda (a b a) 1)", 3).faults("(lambda (a b c d e a) 1)", 3);
        s.faults("(lambda (1) 1)", 3).faults("(lambda ((a)) 1)", 3).faults("(lambda (()) 1)", 3).faults("(lambda a 1)", 3);
        s.tells("(lambda (a) (lambda (a) a))", "(lambda (%0) (lambda (%1) %1))");
        s = new Session();
        s.tells("(define-syntax m (syntax-rules () ((_ n ...) (lambda (a n ...) (a n ...)))))", "");
        s.tells("(m a)", "(lambda (%0 %1) (%0 %1))").faults("(m b b)", 3);
        s.tells("(m a b c d e)", "(lambda (%0 %1 %2 %3 %4 %5) (%0 %1 %2 %3 %4 %5))").faults("(m a b c d e f)", 3);
        Session.sentence("A name with the root ... (or _) can't be bound");
        s.faults("(lambda (_) 1)", 3).faults("(lambda (...) 1)", 3).faults("(lambda (a ...) 1)", 3).faults("(m _)", 3);
        s.faults("(m ...)", 3).tells("(lambda (.. __) (.. __))", "(lambda (%0 %1) (%0 %1))");
    }

    private static void letSyntaxNames() {
        Session.sentence("1 to 6 different names");
        Session s = new Session();
        s.faults("(let-syntax () 1)", 3).faults("(let-syntax m 1)", 3).faults("(let-syntax 1 1)", 3);
        for (int n = 1; n <= 6; n++) {
            s.tells("(let-syntax (" + each(n, "(", " " + ONE + ")") + ") (" + NAMES[n - 1] + "))", "1");
        }
        s.faults("(let-syntax (" + each(7, "(", " " + ONE + ")") + ") 1)", 3);
        s.faults("(let-syntax ((a " + ONE + ") (a " + ONE + ")) 1)", 3);
        s.faults("(let-syntax ((a " + ONE + ") (b " + ONE + ") (a " + ONE + ")) 1)", 3);
        s.tells("(let-syntax ((a " + ONE + ")) (let-syntax ((a " + ONE + ")) (a)))", "1");
        for (String name : new String[] {"1", "()", "(a)", "_", "..."}) {
            s.faults("(let-syntax ((" + name + " " + ONE + ")) 1)", 3);
        }
        Session.sentence("bound to macros whose environment is that new one");
        s.faults("(let-syntax ((syntax-rules " + ONE + ")) 1)", 3);
        s.faults("(let-syntax ((a " + ONE + ") (syntax-rules " + ONE + ")) 1)", 3);
    }

    private static void fits(String rules) {
        new Session().tells("(define-syntax m " + rules + ")", "");
        new Session().tells("(let-syntax ((m " + rules + ")) 1)", "1");
    }

    private static void fails(String rules) {
        new Session().faults("(define-syntax m " + rules + ")", 3);
        new Session().faults("(let-syntax ((m " + rules + ")) 1)", 3);
        new Session().faults("1 (f (let-syntax ((k " + ONE + ") (m " + rules + ")) 1))", 3, 1);
    }

    private static void literalCount() {
        Session.sentence("up to 6 literals, names, not ... or _ (one may stand twice)");
        for (int n = 0; n <= 6; n++) {
            fits("(syntax-rules (" + each(n, "", "") + ") ((_) 1))");
        }
        fails("(syntax-rules (" + each(7, "", "") + ") ((_) 1))");
        fits("(syntax-rules (a a) ((_ a a) 1))");
        fits("(syntax-rules (a a a a a a) ((_ a) 1))");
        fails("(syntax-rules (a a a a a a a) ((_ a) 1))");
        fails("(syntax-rules (...) ((_) 1))");
        fails("(syntax-rules (a _) ((_) 1))");
        fails("(syntax-rules (a b c d e _) ((_) 1))");
        fails("(syntax-rules (1) ((_) 1))");
        fails("(syntax-rules (()) ((_) 1))");
        fails("(syntax-rules ((a)) ((_) 1))");
        fails("(syntax-rules a ((_) 1))");
        fails("(syntax-rules 1 ((_) 1))");
        fits("(syntax-rules (if lambda define m) ((_ if) lambda))");
        Session s = new Session();
        s.tells("(define-syntax m (syntax-rules (a b c d e f) ((_ a b c d e f) 1) ((_ a ...) 2) ((_ g ...) 3)))", "");
        s.tells("(m a b c d e f) (m a b c d e g) (m a a) (m f)", "1 3 2 3");
    }

    private static void ruleCount() {
        Session.sentence("1 to 8 rules");
        fails("(syntax-rules)");
        fails("(syntax-rules ())");
        for (int n = 1; n <= 8; n++) {
            fits("(syntax-rules () " + Session.row("((_) 1)", n) + ")");
        }
        fails("(syntax-rules () " + Session.row("((_) 1)", 9) + ")");
        fails("(syntax-rules () " + Session.row("((_) 1)", 20) + ")");
        fails("(syntax-rules () 1)");
        fails("(syntax-rules () x)");
        fails("(syntax-rules () ())");
        fails("(syntax-rules () ((_)))");
        fails("(syntax-rules () ((_) 1 2))");
        fails("(syntax-rules () ((_) 1) 2)");
        fails("(syntax-rules () " + Session.row("((_) 1)", 7) + " ((_)))");
        Session s = new Session();
        s.tells("(define-syntax m (syntax-rules () ((_ 1) a) ((_ 2) b) ((_ 3) c) ((_ 4) d) ((_ 5) e) ((_ 6) f) ((_ 7) g)"
            + " ((_ 8) h)))", "");
        s.tells("(m 1) (m 2) (m 3) (m 4) (m 5) (m 6) (m 7) (m 8)", "a b c d e f g h").faults("(m 9)", 5).faults("(m 0)", 5);
        Session.sentence("where the first name means the word in the macro's environment");
        fails("1");
        fails("x");
        fails("()");
        fails("(syntax-rule () ((_) 1))");
        fails("(if () ((_) 1))");
        fails("(1 () ((_) 1))");
        fails("((syntax-rules) () ((_) 1))");
        s = new Session();
        s.faults("(lambda (syntax-rules) (let-syntax ((m " + ONE + ")) 1))", 3);
        s.tells("(lambda (x) (let-syntax ((m " + ONE + ")) (m)))", "(lambda (%0) 1)");
    }

    private static String rule(String pattern, String template) {
        return "(syntax-rules () (" + pattern + " " + template + "))";
    }

    private static void patternsAreLists() {
        Session.sentence("A pattern is a list that is not empty; its first form is not looked at.");
        fails(rule("_", "1"));
        fails(rule("1", "1"));
        fails(rule("()", "1"));
        for (String first : new String[] {"_", "m", "1", "()", "...", "(... ...)", "(a a ... ...)", "if"}) {
            fits(rule("(" + first + ")", "1"));
            fits(rule("(" + first + " a)", "a"));
        }
        fits(rule("(a a)", "a"));
        new Session().tells("(define-syntax m " + rule("(a b)", "(quote (a b))") + ") (m 1)", "(quote (a 1))");
        new Session().tells("(define-syntax m " + rule("(1 b)", "b") + ") (m 2)", "2");
    }

    private static void variablesComeOnce() {
        Session.sentence("a VARIABLE, which comes once");
        fits(rule("(_ a b (c (d)))", "1"));
        fails(rule("(_ a a)", "1"));
        fails(rule("(_ lambda lambda)", "1"));
        fits(rule("(_ lambda if)", "(lambda if)"));
        fails(rule("(_ a (a))", "1"));
        fails(rule("(_ (a) (b (a)))", "1"));
        fails(rule("(_ a a ...)", "1"));
        fails(rule("(_ (a ...) a)", "1"));
        fails(rule("(_ (a a) ...)", "1"));
        fits(rule("(_ _ _ (_ _))", "1"));
        fits(rule("(_ _ _ ...)", "1"));
        fits(rule("(_ 1 1)", "1"));
        fits("(syntax-rules (a) ((_ a a (a ...)) 1))");
        fits("(syntax-rules () ((_ a) 1) ((_ a b) 1))");
    }

    private static void dotsInPatterns() {
        Session.sentence("... may stand only at the end of a list, behind some other form");
        fits(rule("(_ a ...)", "1"));
        fits(rule("(_ (a ...))", "1"));
        fits(rule("(_ (a b ...) c ...)", "1"));
        fits(rule("(_ (a ...) (b ...))", "1"));
        fits(rule("(_ 1 ...)", "1"));
        fits(rule("(_ _ ...)", "1"));
        fits(rule("(_ () ...)", "1"));
        fails(rule("(_ a ... b)", "1"));
        fails(rule("(_ ... a)", "1"));
        fails(rule("(_ (a ... b))", "1"));
        fails(rule("(_ (...))", "1"));
        fails(rule("(_ (... a))", "1"));
        fails(rule("(_ ((...)))", "1"));
        Session.sentence("not its first one, in the pattern itself");
        fails(rule("(_ ...)", "1"));
        fails(rule("(a ...)", "1"));
        fails(rule("(... ...)", "1"));
        fails(rule("((a) ...)", "1"));
        fits(rule("(_ (a ...))", "1"));
        Session.sentence("in which no ... is");
        fails(rule("(_ a ... ...)", "1"));
        fails(rule("(_ (a ...) ...)", "1"));
        fails(rule("(_ (1 (a ...)) ...)", "1"));
        fails(rule("(_ ((a ...) b) ...)", "1"));
        fits(rule("(_ (a (b c)) ...)", "1"));
    }

    private static void dotsInTemplates() {
        Session.sentence("In a template ... may stand only behind some other form");
        fits(rule("(_ a ...)", "(a ...)"));
        fits(rule("(_ a ...)", "(a ... 1)"));
        fits(rule("(_ a ...)", "(1 a ... a ... 2)"));
        fails(rule("(_ a ...)", "..."));
        fails(rule("(_ a ...)", "(...)"));
        fails(rule("(_ a ...)", "(... a ...)"));
        fails(rule("(_ a ...)", "(a ... (...))"));
        Session.sentence("in which no ... is");
        fails(rule("(_ a ...)", "(a ... ...)"));
        fails(rule("(_ a ...)", "((a ...) ...)"));
        fails(rule("(_ a ...)", "((1 (a ...)) ...)"));
        fails(rule("(_ (a ...) b ...)", "((a ... b) ...)"));
        fits(rule("(_ a ...)", "((a ...))"));
        Session.sentence("and some repeated variable");
        fails(rule("(_ a)", "(a ...)"));
        fails(rule("(_ a ...)", "(1 ...)"));
        fails(rule("(_ a ...)", "(b ...)"));
        fails(rule("(_ a b ...)", "(a ... b ...)"));
        fails(rule("(_ a ...)", "(() ...)"));
        fails(rule("(_ _ ...)", "(_ ...)"));
        fails("(syntax-rules (a) ((_ a ...) (a ...)))");
        fits(rule("(_ a b ...)", "((a b) ...)"));
        fits(rule("(_ a b ...)", "((1 (a (b))) ...)"));
        Session.sentence("repeated variables are only in such ones");
        fails(rule("(_ a ...)", "a"));
        fails(rule("(_ a ...)", "(a)"));
        fails(rule("(_ a ...)", "(a ... a)"));
        fails(rule("(_ a ...)", "(a a ...)"));
        fails(rule("(_ (a b) ...)", "((a) ... b)"));
        fails(rule("(_ a ...)", "(quote (a))"));
        fails(rule("(_ (a (b)) ...)", "(quote ((b)))"));
        fits(rule("(_ a ...)", "1"));
        fits(rule("(a a ...)", "(a ...)"));
    }

    private static void definedSymbols() {
        Session.sentence("symbol being none of the words, nor define, define-syntax, ... or _: else 3");
        Session s = new Session();
        for (String name : new String[] {"if", "lambda", "quote", "let-syntax", "syntax-rules", "define",
            "define-syntax", "...", "_", "1", "()", "(f)"}) {
            s.faults("1 (define " + name + " 1)", 3, 1);
            s.faults("1 2 (define-syntax " + name + " " + ONE + ")", 3, 2);
        }
        s = new Session();
        for (String name : new String[] {"a", "iff", "..", "__", "....", "abcdefghijkl", "1a", "%0"}) {
            s.tells("(define " + name + " 1)", "(define " + name + " 1)");
            s.tells("(define-syntax " + name + " " + ONE + ") (" + name + ")", "1");
        }
        s.faults("(define)", 3).faults("(define x)", 3).faults("(define x 1 2)", 3);
        s.faults("(define-syntax)", 3).faults("(define-syntax x)", 3).faults("(define-syntax x " + ONE + " 2)", 3);
        Session.sentence("elsewhere these are no words");
        s.tells("(f (define) (define-syntax 1)) define define-syntax", "(f (define) (define-syntax 1)) define define-syntax");
        s.tells("(define x (define if1 2))", "(define x (define if1 2))");
        s.tells("(let-syntax ((m (syntax-rules () ((_) (define 1 2 3))))) (m))", "(define 1 2 3)");
    }
}
