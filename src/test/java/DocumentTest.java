import java.io.IOException;
import java.nio.file.Files;
import java.nio.file.Path;
import java.util.Arrays;
import java.util.List;

/**
 * The document from its first line to its last: each sentence, or part of one, in its own words, and
 * behind it answers that are other ones where it does not hold. The words in a row are the document.
 */
final class DocumentTest {
    private static final Path DOCUMENT = Path.of("../shared/DOC.md");
    private static final List<String> WORDS = List.of("lambda", "if", "quote", "let-syntax", "syntax-rules");
    private static final String ONE = "(syntax-rules () ((_) 1))";
    private static final String M = "(define-syntax m " + ONE + ")";

    private static String document = "";
    private static int at = 0;
    private static String said = "";
    private static int comparedBefore = 0;

    public static void main(String[] args) throws IOException {
        document = Files.exists(DOCUMENT) ? Files.readString(DOCUMENT).replaceAll("\\s+", " ") : "";
        whatItIs();
        thePublicFace();
        texts();
        names();
        environments();
        expanded();
        rules();
        patterns();
        templates();
        matching();
        making();
        topForms();
        faultsInTheirOrder();
        fault1();
        fault2();
        otherFaults();
        theLastFault();
        told();
        newObject();
        type();
        read();
        place();
        count();
        character();
        means();
        check();
        notPromised();
        Session.due("the document is at its end", document.isEmpty() || at == document.length(), true);
        Session.end();
    }

    /** Words that are headings, or say nothing of a call without those behind them. */
    private static void passes(String words) {
        Session.due("answers compared for: " + said, said.isEmpty() || Session.compared() > comparedBefore, true);
        if (!document.isEmpty()) {
            int to = Math.min(document.length(), at + words.length());
            Session.due("the document goes on", document.substring(at, to), words);
            at = to < document.length() && document.charAt(to) == ' ' ? to + 1 : to;
        }
        said = "";
    }

    /** Words that the next answers are due by. */
    private static void says(String words) {
        passes(words);
        Session.sentence(words);
        said = words;
        comparedBefore = Session.compared();
    }

    private static void due(String what, Object got, Object want) {
        Session.due(what, got, want);
    }

    /** A new object for which these macros are defined. */
    private static Session with(String... macros) {
        Session s = new Session();
        for (String macro : macros) {
            s.tells("(define-syntax " + macro + ")", "");
        }
        return s;
    }

    /** Rules with one rule and no literals. */
    private static String rule(String pattern, String template) {
        return "(syntax-rules () (" + pattern + " " + template + "))";
    }

    /** Whether rules are as they must be, in a define-syntax and in a let-syntax. */
    private static void rulesFit(String rules, boolean fit) {
        Session s = new Session();
        if (fit) {
            s.tells("(define-syntax m " + rules + ")", "").tells("(let-syntax ((m " + rules + ")) 1)", "1");
        } else {
            s.faults("(define-syntax m " + rules + ")", 3).faults("(let-syntax ((m " + rules + ")) 1)", 3);
        }
    }

    private static void patternFits(String pattern, boolean fit) {
        rulesFit("(syntax-rules (lit) (" + pattern + " 1))", fit);
    }

    /** Of the variables of the pattern a and b are repeated, c is not. */
    private static void templateFits(String template, boolean fit) {
        rulesFit(rule("(_ c (a b) ...)", template), fit);
    }

    /** Whether a rule with the literal lit matches, each behind the first forms. */
    private static void matches(String pattern, String forms, boolean want) {
        Session s = with("m (syntax-rules (lit) ((_ " + pattern + ") yes))");
        if (want) {
            s.tells("(m " + forms + ")", "yes");
        } else {
            s.faults("(m " + forms + ")", 5);
        }
    }

    private static String lists(int n) {
        return "(".repeat(n) + ")".repeat(n);
    }

    private static void whatItIs() {
        passes("# MacroScopes ## What it is");
        says("Lists of names with macros told by rules, made into plain lists,");
        with("swap " + rule("(_ a b)", "(f b a)")).tells("(swap x (swap 1 2))", "(f (f 2 1) x)");
        says("in which each name stands for what it stood for where it was written, whatever macros put around it.");
        Session s = with("or2 " + rule("(_ a b)", "((lambda (t) (if t t b)) a)"));
        s.tells("(lambda (t) (or2 5 t))", "(lambda (%0) ((lambda (%1) (if %1 %1 %0)) 5))");
        s.tells("(lambda (if) (or2 if 1))", "(lambda (%0) ((lambda (%1) (if %1 %1 1)) %0))");
        says("An object is used for at most 512 calls after it has been made; what later calls answer is free.");
        MacroScopes x = new MacroScopes();
        for (int call = 1; call <= 508; call += 4) {
            due("call " + call, x.type(Session.bytes("(f 12)"), 6), 6);
            due("call " + (call + 1), x.read(), 0);
            due("call " + (call + 2), x.count(0), 6);
            due("call " + (call + 3), x.character(5), (int) ')');
        }
        due("call 509", x.check(), 1);
        due("call 510", x.place(), -1);
        due("call 511", x.type('(', 1), 1);
        due("call 512", x.read(), 1);
    }

    private static void thePublicFace() {
        passes("## The public face ```java");
        says("public final class MacroScopes {");
        due("the class", java.lang.reflect.Modifier.toString(MacroScopes.class.getModifiers()), "public final");
        says("public static final int NONE = -1;");
        due("NONE", MacroScopes.NONE, -1);
        due("other fields", MacroScopes.class.getFields().length, 1);
        says("public MacroScopes();");
        due("constructors", Arrays.toString(MacroScopes.class.getDeclaredConstructors()), "[public MacroScopes()]");
        String[] methods = {"type(long characters, int n)", "read()", "place()", "count(int what)", "character(int k)",
            "means()", "check()"};
        for (String method : methods) {
            says("public int " + method + ";");
            String shown = "public int MacroScopes." + method.replaceAll("(\\w+) \\w+", "$1").replace(", ", ",");
            due(shown, Arrays.stream(MacroScopes.class.getDeclaredMethods()).anyMatch(m -> m.toString().equals(shown)),
                true);
        }
        says("} ```");
        due("public methods", Arrays.stream(MacroScopes.class.getMethods())
            .filter(m -> m.getDeclaringClass() == MacroScopes.class).count(), 7L);
    }

    private static void texts() {
        passes("## Terms");
        says("A TEXT is characters 32 to 126.");
        Session s = new Session();
        due("31", s.type(31, 1), -1);
        due("127", s.type(127, 1), -1);
        s.tells(" ~!", "~!");
        says("TOKENS are ( and ), and runs of other characters but blanks between.");
        s.tells("a(b)c d  e ((f)g)", "a (b) c d e ((f) g)").tells("a'b\"c;d #[x]{y} , `z", "a'b\"c;d #[x]{y} , `z");
        says("One of 1 to 6 digits alone is a NUMBER, by its value (007 is 7);");
        s.tells("007 0 000000 999999 000010 01234 056789", "7 0 0 999999 10 1234 56789");
        s.faults("(lambda (1) 1)", 3).means("1", -1).means("123456", -1).means("999999", -1);
        says("others, of at most 12 characters, and define-syntax, are SYMBOLS.");
        s.tells("1a -1 1.5 abcdefghijkl 01234567890a %0", "1a -1 1.5 abcdefghijkl 01234567890a %0");
        s.tells("(lambda (1a abcdefghijkl) (1a abcdefghijkl))", "(lambda (%0 %1) (%0 %1))");
        s.tells("define-syntax", "define-syntax").faults("define-synta1x", 1).faults("abcdefghijklm", 1);
        says("FORMS are numbers, NAMES and lists ( form .. ).");
        s.tells("1 a (1 a) (quote (1 a (b ()) ()))", "1 a (1 a) (quote (1 a (b ()) ()))");
        says("A symbol in a text is a name, two of the same symbol are the same name.");
        s.tells("(lambda (x X) (x X x))", "(lambda (%0 %1) (%0 %1 %0))").faults("(lambda (x x) 1)", 3);
    }

    private static void names() {
        says("Names have a ROOT: of a symbol itself, of an ALIAS that of the name that it stands for.");
        Session s = with("q " + rule("(_ a)", "(quote (a b))"), "p " + rule("(_)", "(q c)"));
        s.tells("(quote a) (q x) (p)", "(quote a) (quote (x b)) (quote (c b))");
        says("A name with the root ... (or _) is just that, wherever it is, and can't be bound.");
        // The rules that these two make have aliases of _ and the ... that was matched.
        s = with("any " + rule("(_)", "(let-syntax ((k " + rule("(_ _ _)", "7") + ")) (k 1 2))"));
        s.tells("(any)", "7").tells("... _ (... _)", "... _ (... _)");
        s = with("dots " + rule("(_ d)", "(let-syntax ((k " + rule("(_ a d)", "(quote (a d))") + ")) (k 1 2 3))"));
        s.tells("(dots ...)", "(quote (1 2 3))");
        s.faults("(lambda (...) 1)", 3).faults("(lambda (_) 1)", 3);
        s.faults("(let-syntax ((... " + ONE + ")) 1)", 3).faults("(let-syntax ((_ " + ONE + ")) 1)", 3);
        with("l " + rule("(_)", "(lambda (_) 1)"), "b " + rule("(_ n)", "(lambda (n) 1)")).faults("(l)", 3)
            .faults("(b ...)", 3).faults("(b _)", 3).tells("(b x)", "(lambda (%0) 1)");
        says("WORDS are lambda, if, quote, let-syntax, syntax-rules;");
        s = new Session();
        for (String word : WORDS) {
            s.faults(word, 4).means(word, 1);
        }
        says("with define and define-syntax they can't be defined.");
        for (String word : WORDS) {
            s.faults("(define " + word + " 1)", 3).faults("(define-syntax " + word + " " + ONE + ")", 3);
        }
        s = new Session();
        s.faults("(define define 1)", 3).faults("(define define-syntax 1)", 3);
        s.faults("(define-syntax define " + ONE + ")", 3).faults("(define-syntax define-syntax " + ONE + ")", 3);
    }

    private static void environments() {
        says("An ENVIRONMENT binds names to variables and macros, each within another one, the outermost binds none.");
        Session s = new Session();
        s.tells("x (lambda (x) (let-syntax ((m " + ONE + ")) (x (m)))) (m) x", "x (lambda (%0) (%0 1)) (m) x");
        says("The MEANING of a name in it: what the innermost that binds it binds it to;");
        s.tells("(lambda (x y) (lambda (x) (x y)))", "(lambda (%0 %1) (lambda (%2) (%2 %1)))");
        s.tells("(lambda (x) (let-syntax ((x " + ONE + ")) (f (x) (lambda (x) (x)))))",
            "(lambda (%0) (f 1 (lambda (%1) (%1))))");
        s.tells("(lambda (if) (if if))", "(lambda (%0) (%0 %0))");
        says("if none does: of an alias, the meaning of the name that it stands for in the environment of its macro;");
        s.tells("(lambda (x) (let-syntax ((m " + rule("(_)", "x") + ")) (lambda (x) (m))))",
            "(lambda (%0) (lambda (%1) %0))");
        s.tells("(let-syntax ((m " + rule("(_)", "(if x y z)") + ")) (lambda (if x) (m)))", "(lambda (%0 %1) (if x y z))");
        s.tells("(let-syntax ((m " + ONE + ")) (let-syntax ((k " + rule("(_)", "(m)") + ")) (lambda (m) (k))))",
            "(lambda (%0) 1)");
        says("of a symbol, the word, or the macro that is defined by that, or else just that symbol.");
        with("m " + ONE).tells("(if (m) (n) o)", "(if 1 (n) o)").faults("m", 4).faults("if", 4).tells("n", "n");
    }

    private static void expanded() {
        passes("EXPANDED in an environment is ```text");
        says("a number: itself;");
        Session s = new Session();
        s.tells("5 (6)", "5 (6)");
        says("a name: the variable that it means,");
        s.tells("(lambda (a) a)", "(lambda (%0) %0)");
        says("or its root, if it means just that symbol,");
        s.tells("a define", "a define");
        with("m " + rule("(_)", "b")).tells("(m) (lambda (b) (m))", "b (lambda (%0) b)");
        says("or its root is ... or _;");
        s.tells("... _", "... _");
        with("m " + rule("(_)", "_")).tells("(m)", "_");
        says("a list whose first form is a name that means a word or a macro (with syntax-rules it is not as its word wants: 3):");
        s.faults(ONE, 3).faults("(syntax-rules)", 3).faults("(if)", 3)
            .tells("(lambda (syntax-rules) (syntax-rules))", "(lambda (%0) (%0))");
        says("( quote f ): the list of symbol quote and f, all names replaced by their roots;");
        s.tells("(lambda (x) (quote (x (if ()) 01)))", "(lambda (%0) (quote (x (if ()) 1)))")
            .tells("(quote m)", "(quote m)");
        with("m " + rule("(_ a)", "(lambda (b) (quote (a b)))")).tells("(m c)", "(lambda (%0) (quote (c b)))");
        s.faults("(quote)", 3).faults("(quote 1 2)", 3);
        says("( if a b c ): the list of symbol if, and a, b, c expanded;");
        s.tells("(lambda (x) (if x (f x) (quote x)))", "(lambda (%0) (if %0 (f %0) (quote x)))");
        s.faults("(if 1 2)", 3).faults("(if 1 2 3 4)", 3);
        says("( lambda ( n .. ) f ): up to 6 different names,");
        s.tells("(lambda () 1) (lambda (a b c d e f) f)", "(lambda () 1) (lambda (%0 %1 %2 %3 %4 %5) %5)");
        s.faults("(lambda (a b c d e f g) 1)", 3).faults("(lambda (a b a) 1)", 3).faults("(lambda (a 1) 1)", 3);
        s.faults("(lambda a 1)", 3).faults("(lambda (a))", 3).faults("(lambda (a) 1 2)", 3);
        says("bound in a new environment within this one to new variables,");
        s.tells("(f (lambda (a) (lambda (b) (a b))) a b)", "(f (lambda (%0) (lambda (%1) (%0 %1))) a b)");
        says("numbered in each text from 0 on as they come;");
        s.tells("(lambda (a b) 1) (f (lambda (c) (lambda (d) d)) (lambda (e) e))",
            "(lambda (%0 %1) 1) (f (lambda (%2) (lambda (%3) %3)) (lambda (%4) %4))");
        s.tells("(lambda (b) b)", "(lambda (%0) %0)");
        says("the list of symbol lambda, the list of these variables, and f expanded there;");
        s = with("l " + rule("(_ n)", "(lambda (n) n)"));
        s.tells("(lambda (lambda) (l lambda))", "(lambda (%0) (lambda (%1) %1))");
        letSyntax();
        says("a macro: what its rules make of the list, expanded;");
        with("m " + rule("(_ a)", "(lambda (x) (a x))")).tells("(lambda (y) (m y))", "(lambda (%0) (lambda (%1) (%0 %1)))");
        says("other lists that are not empty: the list of all forms expanded.");
        s = new Session();
        s.tells("(f) (1 x) ((f) x) (lambda (x) (x y x))", "(f) (1 x) ((f) x) (lambda (%0) (%0 y %0))").faults("()", 3)
            .faults("(f ())", 3);
        passes("```");
    }

    private static void letSyntax() {
        says("( let-syntax ( ( n RULES ) .. ) f ): 1 to 6 different names,");
        Session s = new Session();
        StringBuilder six = new StringBuilder();
        for (char name = 'a'; name <= 'f'; name++) {
            six.append("(").append(name).append(" ").append(ONE).append(")");
        }
        s.tells("(let-syntax (" + six + ") ((a) (f)))", "(1 1)").faults("(let-syntax (" + six + "(g " + ONE + ")) 1)", 3);
        s.faults("(let-syntax () 1)", 3).faults("(let-syntax ((a " + ONE + ") (a " + ONE + ")) 1)", 3);
        s.faults("(let-syntax ((1 " + ONE + ")) 1)", 3).faults("(let-syntax (a) 1)", 3).faults("(let-syntax ((a 1)) 1)", 3);
        s.faults("(let-syntax ((a " + ONE + ")))", 3).faults("(let-syntax ((a " + ONE + ")) 1 2)", 3)
            .faults("(let-syntax ((a " + ONE + " 1)) 1)", 3);
        says("bound in a new environment within this one to macros by these rules,");
        s = new Session();
        s.tells("(lambda (x) (let-syntax ((a " + rule("(_ y)", "(f y)") + ")) (a x)))", "(lambda (%0) (f %0))")
            .tells("(a x)", "(a x)");
        says("whose environment is that new one;");
        String both = "(let-syntax ((a " + rule("(_)", "(b)") + ") (b " + ONE + ")) ";
        s.tells(both + "(a))", "1").tells(both + "(lambda (b) (b (a))))", "(lambda (%0) (%0 1))");
        s.tells(both + "(let-syntax ((b " + rule("(_)", "2") + ")) ((a) (b))))", "(1 2)");
        s.tells("(lambda (a b) (let-syntax ((a " + rule("(_)", "(f b)") + ")) (lambda (b) (a))))",
            "(lambda (%0 %1) (lambda (%2) (f %1)))");
        s.tells("(let-syntax ((r (syntax-rules () ((_) 0) ((_ x y ...) (f (r y ...)))))) (r 1 2))", "(f (f 0))");
        says("f expanded there;");
        s.tells("(let-syntax ((if " + rule("(_ x)", "(f x)") + ")) (if 1)) (if 1 2 3)", "(f 1) (if 1 2 3)");
    }

    private static void rules() {
        says("RULES: ( syntax-rules ( literal .. ) ( pattern template ) .. ),");
        rulesFit(ONE, true);
        for (String other : new String[] {"1", "m", "()", "(syntax-rules)", "(syntax-rules ((_) 1))",
            "(syntax-rules m ((_) 1))", "(syntax-rules () 1)", "(syntax-rules () ())", "(syntax-rules () ((_)))",
            "(syntax-rules () ((_) 1 2))", "(quote () ((_) 1))"}) {
            rulesFit(other, false);
        }
        says("where the first name means the word in the macro's environment (that of define-syntax is the outermost),");
        Session s = new Session();
        s.faults("(let-syntax ((syntax-rules " + ONE + ")) 1)", 3)
            .faults("(lambda (syntax-rules) (let-syntax ((m " + ONE + ")) (m)))", 3);
        s.tells("(let-syntax ((m " + rule("(_)", "(let-syntax ((k " + rule("(_)", "5") + ")) (k))")
            + ")) (lambda (syntax-rules) (m)))", "(lambda (%0) 5)");
        s.tells("(define-syntax m " + ONE + ")", "");
        says("up to 6 literals, names, not ... or _ (one may stand twice),");
        rulesFit("(syntax-rules (a b c d e f) ((_) 1))", true);
        rulesFit("(syntax-rules (a a if) ((_) 1))", true);
        for (String literals : new String[] {"a b c d e f g", "...", "a _", "1", "(a)"}) {
            rulesFit("(syntax-rules (" + literals + ") ((_) 1))", false);
        }
        says("and 1 to 8 rules.");
        rulesFit("(syntax-rules ())", false);
        rulesFit("(syntax-rules () " + "((_) 1)".repeat(8) + ")", true);
        rulesFit("(syntax-rules () " + "((_) 1)".repeat(9) + ")", false);
    }

    private static void patterns() {
        says("A pattern is a list that is not empty; its first form is not looked at.");
        patternFits("()", false);
        patternFits("_", false);
        patternFits("1", false);
        for (String first : new String[] {"_", "m", "1", "...", "()", "(... a ... a)"}) {
            patternFits("(" + first + " a)", true);
        }
        with("m " + rule("(a b)", "(f a b)")).tells("(m 1)", "(f a 1)");
        says("In a pattern a name is a literal, if it is one of these, or _, or a VARIABLE, which comes once.");
        with("m (syntax-rules (lit) ((_ lit _ _ a) (f a)))").tells("(m lit 1 2 3)", "(f 3)").faults("(m 0 1 2 3)", 5);
        patternFits("(_ lit lit _ _ a b)", true);
        patternFits("(_ a b a)", false);
        patternFits("(_ a (b (a)))", false);
        patternFits("(_ a a ...)", false);
        says("... may stand only at the end of a list, behind some other form");
        patternFits("(_ a ...)", true);
        patternFits("(_ (a ...) (b ...))", true);
        patternFits("(_ a ... b)", false);
        patternFits("(_ a ... ...)", false);
        patternFits("(_ (...))", false);
        says("(not its first one, in the pattern itself),");
        patternFits("(_ ...)", false);
        patternFits("(a ...)", false);
        patternFits("(_ (a ...))", true);
        says("in which no ... is;");
        patternFits("(_ (a b) ...)", true);
        patternFits("(_ (a ...) ...)", false);
        patternFits("(_ (b (a ...)) ...)", false);
        says("variables in that are REPEATED.");
        rulesFit(rule("(_ a ...)", "(a ...)"), true);
        rulesFit(rule("(_ (1 (a)) ...)", "(a ...)"), true);
        rulesFit(rule("(_ b (1 (a)) ...)", "(b ...)"), false);
    }

    private static void templates() {
        says("In a template ... may stand only behind some other form,");
        templateFits("(a ...)", true);
        templateFits("(f a ... (b) ... c)", true);
        templateFits("...", false);
        templateFits("(...)", false);
        templateFits("(... a)", false);
        says("in which no ... is,");
        templateFits("((a ...) ...)", false);
        templateFits("(a ... ...)", false);
        templateFits("((1 (a ...) b) ...)", false);
        says("and some repeated variable;");
        templateFits("((f (c a)) ...)", true);
        templateFits("(c ...)", false);
        templateFits("(f ...)", false);
        templateFits("(1 ...)", false);
        templateFits("(() ...)", false);
        says("repeated variables are only in such ones.");
        templateFits("a", false);
        templateFits("(f a)", false);
        templateFits("(b ... a)", false);
        templateFits("((a b) ... (c))", true);
    }

    private static void matching() {
        says("A rule MATCHES a list, if all forms behind the first ones match:");
        matches("", "", true);
        matches("1 2", "1 2", true);
        matches("1 2", "1 3", false);
        matches("1", "1 2", false);
        matches("1 2", "1", false);
        says("_ and a variable match any form;");
        for (String form : new String[] {"1", "x", "()", "(f (g))", "if", "lit", "...", "_"}) {
            matches("_", form, true);
            matches("a", form, true);
        }
        says("a literal a name with the same meaning, in the use's environment, as it has in the macro's;");
        matches("lit", "lit", true);
        matches("lit", "x", false);
        matches("lit", "1", false);
        matches("lit", "(lit)", false);
        Session s = with("m (syntax-rules (lit if) ((_ lit) 1) ((_ if) 2) ((_ _) 3))", "k " + rule("(_)", "(m lit)"));
        s.tells("((m lit) (m if) (m x))", "(1 2 3)")
            .tells("(lambda (lit if) ((m lit) (m if) (k)))", "(lambda (%0 %1) (3 3 1))");
        s.tells("(lambda (x) (let-syntax ((n (syntax-rules (x) ((_ x) 1) ((_ _) 2)))) (f (n x) (lambda (x) (n x)))))",
            "(lambda (%0) (f 1 (lambda (%1) 2)))");
        says("a number the same one;");
        matches("7", "007", true);
        matches("7", "8", false);
        matches("0", "a", false);
        matches("7", "(7)", false);
        says("a list a list of as many forms that match,");
        matches("()", "()", true);
        matches("()", "(1)", false);
        matches("(a 1)", "(x 1)", true);
        matches("(a 1)", "(x 2)", false);
        matches("(a 1)", "(x)", false);
        matches("(a 1)", "(x 1 2)", false);
        matches("(a 1)", "x", false);
        says("or, with ... at the end, of as many or more as are before the form in front of ...,");
        matches("(1 2 a ...)", "(1)", false);
        matches("(1 2 a ...)", "(1 2)", true);
        matches("(1 2 a ...)", "(1 2 3 4)", true);
        matches("a ...", "", true);
        matches("1 a ...", "", false);
        says("which matches each of the others.");
        matches("(1 ...)", "(1 1 1)", true);
        matches("(1 ...)", "(1 1 2)", false);
        matches("(a 1) ...", "(x 1) (y 1)", true);
        matches("(a 1) ...", "(x 1) (y)", false);
    }

    private static void making() {
        says("The first rule that matches makes of the list its template:");
        with("m (syntax-rules () ((_ 1) one) ((_ a) some) ((_ 2) two))").tells("(m 1) (m 2) (m 3)", "one some some");
        says("a variable replaced by what it matched;");
        with("m " + rule("(_ a (b))", "(quote (b (a) b))")).tells("(m (1 x) (2))", "(quote (2 ((1 x)) 2))");
        says("a form with ... behind told as often as its repeated variables matched, these replaced by what they matched then;");
        Session s = with("m " + rule("(_ c (a b) ...)", "(quote (b ... (a c b) ... (a ...)))"));
        s.tells("(m 0) (m 0 (1 2)) (m 0 (1 2) (3 (4)))",
            "(quote (())) (quote (2 (1 0 2) (1))) (quote (2 (4) (1 0 2) (3 0 (4)) (1 3)))");
        says("each other name (one that is not ...) replaced by an alias that stands for it, made anew in this use,");
        s = with("m " + rule("(_ e)", "(lambda (x) (x e))"), "f2 " + rule("(_ a b)", "(lambda (a) (lambda (b) (a b)))"),
            "n " + rule("(_ a)", "(f2 a z)"));
        s.tells("(m x)", "(lambda (%0) (%0 x))").tells("(m (m x))", "(lambda (%0) (%0 (lambda (%1) (%1 x))))");
        s.tells("(n z)", "(lambda (%0) (lambda (%1) (%0 %1)))");
        says("for the same name the same one;");
        with("m " + rule("(_)", "(lambda (x y) (y x))"), "n " + rule("(_)", "(lambda (x x) 1)"))
            .tells("(m)", "(lambda (%0 %1) (%1 %0))").faults("(n)", 3);
        with("m " + rule("(_ a ...)", "(lambda (t) (f (t a) ...))")).tells("(m 1 t)", "(lambda (%0) (f (%0 1) (%0 t)))");
        says("the alias's macro is this one.");
        new Session().tells("(lambda (x) (let-syntax ((a " + rule("(_)", "x") + ")) (lambda (x) (let-syntax ((b "
            + rule("(_)", "(x (a))") + ")) (lambda (x) (b))))))", "(lambda (%0) (lambda (%1) (lambda (%2) (%1 %0))))");
    }

    private static void topForms() {
        says("TOP FORMS of a text, one by one");
        new Session().tells("(m) " + M + " (m) (define m 2) (m)", "(m) 1 (define m 2) (m)");
        says("(symbol being none of the words, nor define, define-syntax, ... or _: else 3):");
        Session s = new Session();
        for (String symbol : new String[] {"lambda", "if", "quote", "let-syntax", "syntax-rules", "define",
            "define-syntax", "...", "_"}) {
            s.faults("(define " + symbol + " 1)", 3).faults("1 (define-syntax " + symbol + " " + ONE + ")", 3, 1);
        }
        s = new Session();
        s.faults("(define 1 1)", 3).faults("(define (x) 1)", 3).faults("(define-syntax 1 " + ONE + ")", 3);
        says("( define symbol f ): f expanded, then told as the list of symbol define, that symbol, and that;");
        s.tells("(define x (lambda (x) x))", "(define x (lambda (%0) %0))").tells("(define x x)", "(define x x)");
        s.faults("(define x)", 3).faults("(define x 1 2)", 3).faults("(define)", 3).faults("(define x ())", 3);
        says("the symbol is no macro's from then on.");
        s = with("m " + ONE);
        s.means("m", 2).tells("(define m (m)) (m) m", "(define m 1) (m) m").means("m", 0).tells("(m)", "(m)");
        says("( define-syntax symbol RULES ): the symbol is defined as a macro by the rules (nothing is told).");
        s.tells("1 " + M + " 2 (m)", "1 2 1").means("m", 2).tells("(define-syntax m " + rule("(_)", "3") + ") (m)", "3");
        s.faults("(define-syntax n)", 3).faults("(define-syntax n 1)", 3).faults("(define-syntax n " + ONE + " 1)", 3);
        says("Others expanded in the outermost environment.");
        s.tells("1 x (m) (f (lambda (x) x) x)", "1 x 3 (f (lambda (%0) %0) x)");
        says("(Both are known by the symbols define and define-syntax; elsewhere these are no words.)");
        s.tells("(f (define 1) (define-syntax) define)", "(f (define 1) (define-syntax) define)");
        s.tells("define define-syntax", "define define-syntax")
            .tells("(lambda (define) (define 1))", "(lambda (%0) (%0 1))");
        with("d " + rule("(_ n)", "(define n 1)"), "e " + ONE).tells("(d e2) (d 5)", "(define e2 1) (define 5 1)")
            .faults("(d e)", 4);
    }

    private static void faultsInTheirOrder() {
        says("SIZE of a form: how many numbers, names and lists it has.");
        Session s = new Session();
        s.tells("(define-syntax m (syntax-rules () ((_ 1 (a)) (f (a) ()))))", "").counts(0, 0, 0, 1, 1, 14);
        says("FAULTS, at the first one that is met, forms from the left, each before its parts:");
        s = with("m " + ONE);
        s.faults("if ()", 4).faults("() if", 3).faults("(f (g if) ())", 4).faults("(f (g ()) if)", 3)
            .faults("(f m (m 1))", 4);
        s.faults("(if if)", 3).faults("(m if)", 5).faults("(lambda (x x) if)", 3).faults("(define if if)", 3);
    }

    private static void fault1() {
        says("1 brackets that do not close or open,");
        Session s = new Session();
        s.faults("(", 1).faults(")", 1).faults("(f (g)", 1).faults("(f) g)", 1).faults(")(", 1).tells("(f (g))", "(f (g))");
        says("one within more than 60 others,");
        s.tells("(quote " + lists(60) + ")", "(quote " + lists(60) + ")").faults("(quote " + lists(61) + ")", 1)
            .faults(lists(62), 1);
        s.faults(lists(61), 3);
        says("a token too long;");
        s.faults("abcdefghijklm", 1).faults("1234567", 1).faults("define-syntaxx", 1)
            .tells("abcdefghijkl 123456", "abcdefghijkl 123456");
        says("all others are looked at behind that;");
        s.faults("() if (", 1).faults("if 1234567", 1).faults("(define-syntax if 1) )", 1);
    }

    private static void fault2() {
        says("2 TOO MUCH: with the use that would be more than the 100th in a text,");
        Session s = with("m " + ONE);
        s.tells("(m)".repeat(100), Session.row("1", 100)).faults("(m)".repeat(101), 2, 100)
            .faults("(m)".repeat(100) + "(m 1)", 2, 100);
        says("the lambda or let-syntax that would be more than the 250th;");
        s = with("l " + rule("(_)", "(f " + "(lambda () 1)".repeat(124) + " (let-syntax ((k " + ONE + ")) 1))"));
        String told = "(f " + Session.row("(lambda () 1)", 124) + " 1)";
        s.tells("(l)(l)", told + " " + told).faults("(l)(l)(lambda () 1)", 2, 2);
        s.faults("(l)(l)(let-syntax ((k " + ONE + ")) 1)", 2, 2).tells("(l)(if 1 2 3)", told + " (if 1 2 3)");
        says("what rules make has a size over 600,");
        s = with("m " + rule("(_ a ...)", "(quote (a ... a ...))"));
        s.tells("(m" + " 1".repeat(298) + ")", "(quote (" + Session.row("1", 596) + "))")
            .faults("(m" + " 1".repeat(299) + ")", 2);
        s = with("m " + rule("(_ a)", "(f a 1 1)"));
        s.tells("(m (f" + " 1".repeat(594) + "))", "(f (f" + " 1".repeat(594) + ") 1 1)")
            .faults("(m (f" + " 1".repeat(595) + "))", 2);
        says("or a list within more than 60 others;");
        s = with("m " + rule("(_ a)", "(quote (a))"));
        s.tells("(m " + lists(59) + ")", "(quote (" + lists(59) + "))").faults("(m " + lists(60) + ")", 2);
        s = with("m " + rule("(_ a ...)", "(quote ((a) ...))"));
        s.tells("(m 1 " + lists(58) + ")", "(quote ((1) (" + lists(58) + ")))").faults("(m 1 " + lists(59) + ")", 2);
        says("a list that would be expanded within more than 100 others");
        s = with("w (syntax-rules () ((_ e) e) ((_ e a b ...) (f (f (w e b ...)))))");
        String ones = " 1".repeat(33);
        String deep = "(f (f ".repeat(33);
        String close = "))".repeat(33);
        // Each number is worth three lists, and the last use one more.
        s.tells("(w (g)" + ones + ")", deep + "(g)" + close).faults("(f (w (g)" + ones + "))", 2)
            .tells("(f (w 1" + ones + "))", "(f " + deep + "1" + close + ")");
        says("(what a use or let-syntax becomes is within it);");
        s = with("d (syntax-rules () ((_ e) e) ((_ e a b ...) (d e b ...)))");
        s.tells("(d (g)" + " 1".repeat(99) + ")", "(g)").faults("(f (d (g)" + " 1".repeat(99) + "))", 2);
        s.faults("(let-syntax ((k " + ONE + ")) (d (g)" + " 1".repeat(99) + "))", 2);
        s.tells("(let-syntax ((k " + ONE + ")) (d (g)" + " 1".repeat(98) + "))", "(g)");
        says("rules of define-syntax told so far in all texts without a fault would have a size over 4000;");
        allRules();
    }

    /** More calls are made here than an object is used for: with fewer this limit is not met. */
    private static void allRules() {
        MacroScopes x = new MacroScopes();
        String[] names = {"a", "b", "c"};
        for (String name : names) {
            due("read", Session.read(x, "(define-syntax " + name + " " + rule("(_)", "(" + "1 ".repeat(1193) + ")") + ")"),
                0);
            due("read", Session.read(x, "(define-syntax " + name + " " + ONE + ") ()"), 3);
        }
        due("size", x.count(5), 3600);
        String rest = "(define-syntax d " + rule("(_)", "(" + "1 ".repeat(386) + ")") + ")";
        due("read", Session.read(x, rest), 0);
        due("size", x.count(5), 3993);
        due("read", Session.read(x, "1 (define-syntax e " + rule("(_)", "()") + ") (define-syntax f " + rule("(_)", "(1)")
            + ")"), 2);
        due("place", x.place(), 2);
        due("size", x.count(5), 3993);
        due("read", Session.read(x, "(define-syntax e " + ONE + ")"), 0);
        due("size", x.count(5), 4000);
        due("read", Session.read(x, "(define-syntax e " + ONE + ")"), 2);
    }

    private static void otherFaults() {
        says("3 a list that is empty, or not as its word, or its rules, want;");
        Session s = with("m " + ONE);
        s.faults("()", 3).faults("(if 1)", 3).faults("(define-syntax n (syntax-rules () ((_ a a) 1)))", 3)
            .faults("1 (f (lambda))", 3, 1);
        says("4 a name that means a word or macro is expanded itself;");
        s.faults("m", 4).faults("(f quote)", 4).faults("(define x m)", 4).faults("(let-syntax ((k " + ONE + ")) (f k))", 4);
        s.tells("(quote m) (lambda (m) m)", "(quote m) (lambda (%0) %0)");
        says("5 no rule matches;");
        s.faults("(m 1)", 5).faults("1 2 (f (m 1))", 5, 2).tells("(m)", "1");
        says("6 repeated variables of a form with ... behind it matched not the same number of forms");
        s = with("z " + rule("(_ (a ...) b ...)", "(quote (((a b) ...) a ... b ...))"),
            "y " + rule("(_ (a ...) b ...)", "(quote (a ... b ...))"));
        s.tells("(z (1 2) 3 4) (z ()) (y (1 2) 3)", "(quote (((1 3) (2 4)) 1 2 3 4)) (quote (())) (quote (1 2 3))");
        s.faults("(z (1 2) 3)", 6).faults("(z () 3)", 6).faults("1 (z (1))", 6, 1);
        says("(before the size is looked at).");
        s.faults("(z (" + "1 ".repeat(700) + ") 3)", 6).faults("(z (" + "1 ".repeat(300) + ")" + " 2".repeat(300) + ")", 2);
    }

    private static void theLastFault() {
        says("At last, as the last top form's, 2, if more than 4000 characters would be told.");
        Session s = with("t " + rule("(_ a)", "(quote (" + "a ".repeat(110) + "))"));
        String use = "(t abcdefghijkl)";
        String made = "(quote (" + Session.row("abcdefghijkl", 110) + "))";
        String rest = Session.row("abcdefghi", 112) + "j";
        String told = made + " " + made + " " + rest;
        due("characters", told.length(), 4000);
        s.tells(use + use + rest, told).counts(4000, 2, 0, 114);
        s.faults(use + use + rest + "k", 2, 113);
        s = with("t " + rule("(_ a)", "(quote (" + "a ".repeat(110) + "))"));
        s.faults(use + use + rest + " 1", 2, 114).faults(use + use + use + " if", 4, 3).faults(use + use + use + M, 2, 3);
        says("With a fault all that was defined, and what was told before, stays as it was before the text.");
        String change = "(define m 3) (define-syntax n " + ONE + ") (define-syntax k " + rule("(_)", "2")
            + ") (lambda (x) (n)) ";
        String[] faulty = {"(", "(r)", "()", "if", "(n 1)", "(z () 1)"};
        for (int fault = 1; fault <= faulty.length; fault++) {
            s = with("m " + ONE, "k " + ONE, "r " + rule("(_)", "(r)"),
                "z " + rule("(_ (a ...) b ...)", "(quote ((a b) ...))"));
            s.tells("(m) (lambda (y) (f y))", "1 (lambda (%0) (f %0))").counts(22, 1, 1, 2, 4, 7 + 7 + 8 + 18);
            s.faults(change + faulty[fault - 1], fault, fault == 1 ? -1 : 4).counts(22, 1, 1, 2, 4, 7 + 7 + 8 + 18);
            due("told", s.told(), "1 (lambda (%0) (f %0))");
            s.means("m", 2).means("n", 0).tells("(m) (n) (k)", "1 (n) 1");
        }
    }

    private static void told() {
        says("TOLD: forms expanded of all top forms, a blank between,");
        Session s = new Session();
        s.tells("  1(f)  " + M + "x (define y 2)", "1 (f) x (define y 2)").tells(M, "").tells("", "");
        says("blanks between forms of a list, none behind ( and before );");
        s.tells("( f  (g)(  h 1 ) )", "(f (g) (h 1))").tells("(quote(()(())))", "(quote (() (())))")
            .tells("(lambda()1)", "(lambda () 1)");
        says("variables by % and their number.");
        s.tells("(lambda (a b c) (lambda (d e f) (lambda (g h i) (lambda (j k l) (a j k)))))",
            "(lambda (%0 %1 %2) (lambda (%3 %4 %5) (lambda (%6 %7 %8) (lambda (%9 %10 %11) (%0 %9 %10)))))");
        passes("The constants:");
        says("`NONE = -1`: There is none, or nothing is done.");
        due("NONE", MacroScopes.NONE, -1);
        due("there is none", s.character(999), -1);
        due("nothing is done", s.type(0, 1), -1);
        s.isEmpty();
    }

    private static void newObject() {
        passes("## Promise 1: A new object");
        says("`MacroScopes()`: Nothing defined.");
        with("m " + ONE, "n " + ONE).counts(0, 0, 0, 1, 2, 14);
        // Another object knows nothing of these.
        new Session().means("m", 0).means("n", 0).counts(0, 0, 0, 0, 0, 0).tells("(m) n", "(m) n");
    }

    private static void type() {
        passes("## Promise 2: type");
        says("`int type(long characters, int n)`: Puts n characters behind the text that is typed,");
        Session s = new Session();
        s.type(Session.bytes("(f "), 3);
        s.type(Session.bytes("ab"), 2);
        s.type(Session.bytes("c)"), 2);
        due("read", s.read(), 0);
        due("told", s.told(), "(f abc)");
        says("the lowest n bytes of a number, the highest of them first:");
        s.type(Session.bytes("12345678"), 3);
        s.type(0xFF00000000000000L | Session.bytes(" abc"), 4);
        s.type(-1L << 32 | Session.bytes(" xyz"), 4);
        due("read", s.read(), 0);
        due("told", s.told(), "678 abc xyz");
        says("how long it is.");
        for (int n = 1; n <= 8; n++) {
            due("type of " + n, s.type(Session.bytes("abcdefgh"), n), n * (n + 1) / 2);
        }
        due("means", s.means(), -1);
        says("NONE, and nothing is put, when n is not 1 .. 8,");
        for (int n : new int[] {0, -1, 9, 10, 64, 256, Integer.MIN_VALUE, Integer.MAX_VALUE}) {
            due("type of " + n, s.type(Session.bytes("abcdefgh"), n), -1);
        }
        s.isEmpty();
        says("one is not 32 .. 126,");
        for (int c : new int[] {0, 9, 10, 31, 127, 128, 160, 255}) {
            due("type of character " + c, s.type(Session.bytes("ab") << 8 | c, 3), -1);
            due("type of character " + c, s.type((long) c << 16 | Session.bytes("ab"), 3), -1);
        }
        s.isEmpty();
        due("type of characters 32 and 126", s.type(32 << 8 | 126, 2), 2);
        due("means", s.means(), 0);
        says("or there would be more than 3000.");
        s = new Session();
        s.type("a ".repeat(1498) + "b");
        due("to 3001", s.type(Session.bytes("abcd"), 4), -1);
        due("to 3000", s.type(Session.bytes(" cd"), 3), 3000);
        due("to 3001", s.type(Session.bytes("a"), 1), -1);
        due("read", s.read(), 0);
        s.counts(3000, 0, 0, 1500);
    }

    private static void read() {
        passes("## Promise 3: read");
        says("`int read()`: Reads the typed text, which is empty then:");
        Session s = new Session();
        s.tells("(f 1)", "(f 1)").isEmpty().tells("", "").faults("(", 1).isEmpty().faults("1 if", 4, 1).isEmpty();
        says("0, or its fault.");
        s = with("m " + ONE, "r " + rule("(_)", "(r)"), "z " + rule("(_ (a ...) b ...)", "(quote ((a b) ...))"));
        String[] texts = {"(m)", "(", "(r)", "()", "if", "(m 1)", "(z () 1)"};
        for (int fault = 0; fault < texts.length; fault++) {
            due("read of " + texts[fault], s.read(texts[fault]), fault);
        }
    }

    private static void place() {
        passes("## Promise 4: place");
        says("`int place()`: The number, from 0, of the top form that had the fault of the latest read();");
        Session s = with("m " + ONE);
        s.faults("() 1", 3, 0).faults("1 (f) if 2", 4, 2).faults(M + "(define x 1) (f (m 1))", 5, 2);
        s.faults("1 ".repeat(20) + "()", 3, 20).faults("1 ()", 3, 1);
        says("NONE when it had none, or fault 1.");
        due("place before any", new MacroScopes().place(), -1);
        s.tells("1", "1").faults("1 ()", 3, 1).faults("1 () (", 1, -1).faults("1 ()", 3, 1).tells("", "");
    }

    private static void count() {
        String text = "(m) (lambda (x y) (m)) " + M;
        passes("## Promise 5: count");
        says("`int count(int what)`: Of the latest text without a fault (0 each before one):");
        Session s = new Session();
        s.counts(0, 0, 0, 0, 0, 0).faults(M + text + "if", 4, 4).counts(0, 0, 0, 0, 0, 0);
        s.tells(M + text, "1 (lambda (%0 %1) 1)").counts(20, 2, 2, 4, 1, 14).faults(text + "if", 4, 3)
            .counts(20, 2, 2, 4, 1, 14);
        says("how many characters were told (what 0),");
        due("count(0)", s.count(0), 20);
        says("uses of macros (1),");
        s.tells("(m) (f (m) (m)) (quote (m))", "1 (f 1 1) (quote (m))");
        due("count(1)", s.count(1), 3);
        says("variables (2),");
        s.tells("(lambda (a b) (lambda (c) a))", "(lambda (%0 %1) (lambda (%2) %0))");
        due("count(2)", s.count(2), 3);
        says("top forms (3);");
        s.tells("1 (define k (f 2)) (g (h)) " + M, "1 (define k (f 2)) (g (h))");
        due("count(3)", s.count(3), 4);
        says("how many symbols are macros (4);");
        s = with("m " + ONE, "n " + ONE, "m " + ONE);
        due("count(4)", s.count(4), 2);
        s.tells("(define m 1) (define k 1)", "(define m 1) (define k 1)");
        due("count(4)", s.count(4), 1);
        says("the size of all rules of define-syntax told so far (5);");
        due("count(5)", s.count(5), 21);
        s.tells("(let-syntax ((q " + ONE + ")) (q))", "1");
        due("count(5)", s.count(5), 21);
        s.tells("(define-syntax q (syntax-rules (a b) ((_ (x ...)) (f x ...))))", "");
        due("count(5)", s.count(5), 21 + 15);
        says("NONE for others.");
        for (int what : new int[] {-1, 6, 7, Integer.MIN_VALUE, Integer.MAX_VALUE}) {
            due("count(" + what + ")", s.count(what), -1);
        }
    }

    private static void character() {
        passes("## Promise 6: character");
        says("`int character(int k)`: Character k of what was told;");
        Session s = new Session();
        s.read("(lambda (x) (x 007))");
        String told = "(lambda (%0) (%0 7))";
        for (int k = 0; k < told.length(); k++) {
            due("character(" + k + ")", s.character(k), (int) told.charAt(k));
        }
        says("NONE when there is none.");
        for (int k : new int[] {-1, told.length(), told.length() + 1, 3999, 4000, Integer.MIN_VALUE, Integer.MAX_VALUE}) {
            due("character(" + k + ")", s.character(k), -1);
        }
        due("character before any", new MacroScopes().character(0), -1);
        s.tells("1", "1");
        due("character behind a shorter text", s.character(1), -1);
    }

    private static void means() {
        passes("## Promise 7: means");
        says("`int means()`: What the typed text, one symbol, means in the outermost environment:");
        Session s = with("m " + ONE);
        s.tells("(lambda (m) (let-syntax ((x " + ONE + ")) (m x2)))", "(lambda (%0) (%0 x2))").means("m", 2).means("x", 0);
        says("0 just itself,");
        s.means("x", 0).means("...", 0).means("_", 0).means("abcdefghijkl", 0).means("1a", 0).means(" x ", 0);
        says("1 a word (define and define-syntax, too),");
        for (String word : WORDS) {
            s.means(word, 1);
        }
        s.means("define", 1).means("define-syntax", 1);
        says("2 a macro;");
        s.means("m", 2).tells("(define m 1)", "(define m 1)").means("m", 0);
        says("NONE when it is not one symbol.");
        for (String text : new String[] {"", " ", "1", "1234567", "(", ")", "()", "(m)", "m m", "m)", "abcdefghijklm"}) {
            s.means(text, -1);
        }
        says("The text is empty then.");
        s.means("x", 0).isEmpty().means("(", -1).isEmpty().means("m", 0).tells("1", "1");
    }

    private static void check() {
        passes("## Promise 8: check");
        says("`int check()`: Whether what was told latest, typed and read as one text with no macros defined, would be told just so"
            + " but for its variables and define:");
        Session s = new Session();
        for (String text : new String[] {"", "x", "(f (g) 1) (quote (a ()))", "(lambda (x) (if x (f x) y))",
            "(define x (f))"}) {
            s.read(text);
            due("check of " + s.told(), s.check(), 1);
            Session again = new Session();
            again.tells(s.told(), s.told());
        }
        says("1, also before any;");
        due("check before any", new MacroScopes().check(), 1);
        s = new Session();
        s.faults("(", 1).faults("()", 3);
        due("check behind a fault", s.check(), 1);
        says("it would tell 0.");
        // Of the last two the first is within 60 others, the second within 61: that would have fault 1.
        s = with("w " + rule("(_ a)", "(f (f a))"));
        for (int lists = 60; lists <= 62; lists++) {
            String told = "(f ".repeat(lists) + "1" + ")".repeat(lists);
            s.tells("(f ".repeat(lists - 60) + "(w ".repeat(30) + "1" + ")".repeat(lists - 30), told);
            due("check of " + told, s.check(), lists <= 61 ? 1 : 0);
            due("read of " + told, new Session().read(told), lists <= 61 ? 0 : 1);
        }
        s.tells("1", "1");
        due("check", s.check(), 1);
        says("(Brackets alone are looked at.)");
        s = with("d " + rule("(_)", "(define 1 2)"));
        s.tells("(d)", "(define 1 2)");
        due("check", s.check(), 1);
    }

    private static void notPromised() {
        passes("## Not promised How the state is held inside the object is free, as are the speed of each call, the text of toString"
            + " and the behaviour of equals and hashCode. Use of one object from several threads at once is not promised to be safe."
            + " Nothing is promised beyond the answers and state changes described above, and nothing about an object after its"
            + " 512th call.");
    }
}
