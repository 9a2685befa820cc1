/** Promise 3: tokens, brackets and fault 1. */
final class TokensTest {
    public static void main(String[] args) {
        Session s = new Session();
        s.tells("", "").counts(0, 0, 0, 0, 0, 0);
        s.tells("    ", "");
        s.tells("007", "7").tells("000000", "0").tells("999999", "999999").tells("  12   0034 ", "12 34");
        s.faults("0000000", 1).faults("1234567", 1).faults("1234567890123", 1);
        s.tells("1234567a", "1234567a").tells("-1", "-1").tells("1.5", "1.5").tells("12a", "12a");
        s.tells("abcdefghijkl", "abcdefghijkl").faults("abcdefghijklm", 1);
        s.tells("define-syntax", "define-syntax").tells("define", "define");
        s.faults("define-syntay", 1).faults("define-syntaxx", 1).faults("Define-syntax", 1);
        s.faults("abcdefghijklmnopq", 1);
        s.tells("a(b)c(1(2)3)4", "a (b) c (1 (2) 3) 4");
        s.tells("'a \"b\" ;c #t `,@ [x] {y} ~", "'a \"b\" ;c #t `,@ [x] {y} ~");
        s.tells("A a", "A a");
        s.tells("abcdefgh abcdefghi abcdefg", "abcdefgh abcdefghi abcdefg");

        s.faults("(", 1).faults(")", 1).faults("(1", 1).faults("1)", 1).faults(")(", 1).faults("(()", 1);
        s.faults("(f))", 1).faults("(f) (", 1);
        s.faults("if (", 1).faults("() )", 1).faults("(if) 1234567", 1);
        s.tells(nested(61, "f"), nested(61, "f")).faults(nested(62, "f"), 1);
        s.tells("(quote " + nested(60, "") + ")", "(quote " + nested(60, "") + ")");
        s.faults("(quote " + nested(61, "") + ")", 1);
        s.tells(nested(61, "f") + nested(61, "f"), nested(61, "f") + " " + nested(61, "f"));
        Session.end();
    }

    /** So many lists, one within the other, each beginning with a form. */
    private static String nested(int lists, String form) {
        StringBuilder text = new StringBuilder();
        for (int i = 0; i < lists; i++) {
            text.append("(").append(form).append(i < lists - 1 && !form.isEmpty() ? " " : "");
        }
        return text.append(")".repeat(lists)).toString();
    }
}
