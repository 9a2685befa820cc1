/** Promise 6: each character of what was told. */
final class CharacterTest {
    private static final int[] FAR = {-2, -3000, 3999, 4000, 4001, 65536, Integer.MIN_VALUE, Integer.MAX_VALUE};

    public static void main(String[] args) {
        noneBeforeAText();
        firstAndLast();
        noneBehindAShorterText();
        staysWithAFault();
        all4000();
        Session.end();
    }

    private static void due(Session s, int k, int want) {
        Session.due("character(" + k + ")", s.character(k), want);
    }

    private static void noneBeforeAText() {
        Session.sentence("NONE when there is none.");
        Session s = new Session();
        due(s, 0, -1);
        due(s, -1, -1);
        for (int k : FAR) {
            due(s, k, -1);
        }
    }

    private static void firstAndLast() {
        Session.sentence("NONE when there is none.");
        Session s = new Session();
        String told = "(f 12)";
        s.tells(told, told);
        for (int k = 0; k < told.length(); k++) {
            due(s, k, told.charAt(k));
        }
        due(s, -1, -1);
        due(s, 6, -1);
        due(s, 7, -1);
        for (int k : FAR) {
            due(s, k, -1);
        }
    }

    private static void noneBehindAShorterText() {
        Session.sentence("NONE when there is none.");
        Session s = new Session();
        s.tells("(abc def)", "(abc def)").tells("xy", "xy");
        due(s, 1, 'y');
        due(s, 2, -1);
        s.tells("(define-syntax m (syntax-rules () ((_) 1)))", "");
        due(s, 0, -1);
        s.tells("z", "z");
        due(s, 0, 'z');
        due(s, 1, -1);
        s.tells("", "");
        due(s, 0, -1);
    }

    private static void staysWithAFault() {
        Session.sentence("what was told before, stays as it was before the text");
        Session s = new Session();
        s.tells("ab", "ab");
        s.faults("(long (enough) ())", 3);
        due(s, 0, 'a');
        due(s, 1, 'b');
        due(s, 2, -1);
        s.type("zz");
        due(s, 0, 'a');
        Session.due("means", s.means(), 0);
        due(s, 0, 'a');
    }

    private static void all4000() {
        Session.sentence("NONE when there is none.");
        Session s = new Session();
        s.type("(define-syntax t (syntax-rules () ((_ a) (quote (" + "a ".repeat(199) + ")))))");
        Session.due("read", s.read(), 0);
        String told = "(quote (" + Session.row("abcdefghi", 199) + ")) (quote (" + Session.row("abcdefgh", 199) + "))"
            + " 7".repeat(99) + " 8";
        Session.due("characters due", told.length(), 4000);
        s.tells("(t abcdefghi)(t abcdefgh)" + " 7".repeat(99) + " 8", told);
        due(s, 3998, ' ');
        due(s, 3999, '8');
        due(s, 4000, -1);
    }
}
