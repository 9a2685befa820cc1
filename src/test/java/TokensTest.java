/** Promise 3: tokens, brackets and fault 1. */
final class TokensTest {
    public static void main(String[] args) {
        emptyTexts();
        numbers();
        symbols();
        defineSyntax();
        sameSymbols();
        separators();
        openAndClose();
        nesting();
        lookedAtFirst();
        Session.end();
    }

    private static void emptyTexts() {
        Session.sentence("a text without tokens has no forms");
        Session s = new Session();
        s.tells("", "").counts(0, 0, 0, 0, 0, 0);
        s.tells("    ", "").counts(0, 0, 0, 0, 0, 0);
    }

    private static void numbers() {
        Session.sentence("One of 1 to 6 digits alone is a NUMBER, by its value (007 is 7)");
        Session s = new Session();
        s.tells("0", "0").tells("9", "9").tells("10", "10").tells("007", "7").tells("000000", "0");
        s.tells("99999", "99999").tells("100000", "100000").tells("999999", "999999").tells("000001", "1");
        s.tells("  12   0034 ", "12 34");
        s.faults("0000000", 1).faults("0000007", 1).faults("1234567", 1).faults("12345678", 1);
        s.faults("123456789012", 1).faults("1234567890123", 1).faults("(f 1 (g 1234567))", 1);
        Session.sentence("a number the same one");
        s = new Session();
        s.tells("(define-syntax m (syntax-rules () ((_ 999999) 1) ((_ 07) 2) ((_ 0) 3) ((_ _) 4)))", "");
        s.tells("(m 999999) (m 999998) (m 7) (m 000007) (m 70) (m 000) (m x)", "1 4 2 2 4 3 4");
    }

    private static void symbols() {
        Session.sentence("others, of at most 12 characters, are SYMBOLS");
        Session s = new Session();
        for (int n = 1; n <= 12; n++) {
            String symbol = "abcdefghijkl".substring(0, n);
            s.tells(symbol, symbol);
        }
        s.tells("1234567a", "1234567a").tells("12345678901a", "12345678901a").tells("-1", "-1").tells("1.5", "1.5");
        s.tells("12a", "12a").tells("a12", "a12");
        s.faults("abcdefghijklm", 1).faults("123456789012a", 1).faults("abcdefghijklmnop", 1);
        s.faults("abcdefghijklmnopq", 1).faults("a".repeat(3000), 1);
        s = new Session();
        s.faults("(quote abcdefghijklm)", 1).faults("1 abcdefghijklm 2", 1);
        s.tells("(lambda (abcdefghijkl) abcdefghijkl)", "(lambda (%0) %0)");
        s.tells("'a \"b\" ;c #t `,@ [x] {y} ~", "'a \"b\" ;c #t `,@ [x] {y} ~");
    }

    private static void defineSyntax() {
        Session.sentence("at most 12 characters, and define-syntax");
        Session s = new Session();
        s.tells("define-syntax", "define-syntax").tells("define", "define").tells("(f define-syntax)", "(f define-syntax)");
        s.tells("define-synta", "define-synta");
        s.faults("define-syntay", 1).faults("define-syntaxx", 1).faults("Define-syntax", 1).faults("xdefine-syntax", 1);
        s.faults("efine-syntaxd", 1).faults("define_syntax", 1).faults("define-syntaxdefine-syntax", 1);
    }

    private static void sameSymbols() {
        Session.sentence("two of the same symbol are the same name");
        Session s = new Session();
        s.tells("(lambda (a A) (a A b))", "(lambda (%0 %1) (%0 %1 b))");
        s.tells("(lambda (abcdefgh abcdefghi abcdefg) (abcdefg abcdefgh abcdefghi))", "(lambda (%0 %1 %2) (%2 %0 %1))");
        s.tells("(lambda (abcdefghijkl) (abcdefghijkm bbcdefghijkl abcdefghijkl))",
            "(lambda (%0) (abcdefghijkm bbcdefghijkl %0))");
        s.faults("(lambda (abcdefghijkl abcdefghijkl) 1)", 3);
    }

    private static void separators() {
        Session.sentence("TOKENS are ( and ), and runs of other characters but blanks between");
        Session s = new Session();
        s.tells("a(b)c(1(2)3)4", "a (b) c (1 (2) 3) 4");
        s.tells("  (  a   b  )  ", "(a b)");
        s.tells("abcdef 123456(ghijkl)mnopqr", "abcdef 123456 (ghijkl) mnopqr");
        s.tells("abcdefghijkl abcdefghijkl(abcdefghijkl)", "abcdefghijkl abcdefghijkl (abcdefghijkl)");
    }

    private static void openAndClose() {
        Session.sentence("1 brackets that do not close or open");
        Session s = new Session();
        s.faults("(", 1).faults(")", 1).faults("(1", 1).faults("1)", 1).faults(")(", 1).faults("(()", 1).faults("())", 1);
        s.faults("(f))", 1).faults("(f) (", 1).faults("(f)) (", 1).faults("((f)", 1);
        s.tells("(f)", "(f)").tells("((f))", "((f))").tells("(f) (g)", "(f) (g)");
    }

    private static void nesting() {
        Session.sentence("one within more than 60 others");
        Session s = new Session();
        s.tells(nested(60, "f"), nested(60, "f")).tells(nested(61, "f"), nested(61, "f"));
        s.faults(nested(62, "f"), 1).faults(nested(63, "f"), 1);
        s = new Session();
        s.tells("(quote " + nested(60, "") + ")", "(quote " + nested(60, "") + ")");
        s.faults("(quote " + nested(61, "") + ")", 1);
        s.faults("(".repeat(62), 1).faults("(".repeat(200), 1).faults(")".repeat(200), 1);
        s.faults("(".repeat(1500) + ")".repeat(1500), 1);
        s = new Session();
        s.tells(nested(61, "f") + nested(61, "f"), nested(61, "f") + " " + nested(61, "f"));
        s.faults(nested(61, "f") + nested(62, "f"), 1);
        // Many lists are fine side by side.
        String wide = "(f" + "(g)".repeat(100) + ")";
        s.tells(wide, "(f " + Session.row("(g)", 100) + ")");
    }

    private static void lookedAtFirst() {
        Session.sentence("all others are looked at behind that");
        Session s = new Session();
        s.faults("if (", 1).faults("() )", 1).faults("(if) 1234567", 1).faults("() abcdefghijklm", 1);
        s.faults("(lambda (x x) 1) " + nested(62, "f"), 1).faults("(define if 1) (", 1);
        s.faults("if ()", 4).faults("(if) 123456", 3);
    }

    /** So many lists, one within the other, each beginning with a form. */
    private static String nested(int lists, String form) {
        StringBuilder text = new StringBuilder();
        for (int i = 0; i < lists; i++) {
            text.append("(").append(form).append(i < lists - 1 && !form.isEmpty() ? " " : "");
        }
        return text.append(")".repeat(lists)).toString();
    }
}
