/** Promise 6: each character of what was told. */
final class CharacterTest {
    public static void main(String[] args) {
        Session s = new Session();
        MacroScopes x = s.object();
        due(x, 0, -1);
        s.tells("(f 12)", "(f 12)");
        String told = "(f 12)";
        for (int k = 0; k < told.length(); k++) {
            due(x, k, told.charAt(k));
        }
        for (int k : new int[] {-1, 6, 7, 3999, 4000, 4001, Integer.MIN_VALUE, Integer.MAX_VALUE}) {
            due(x, k, -1);
        }
        s.tells("ab", "ab");
        due(x, 1, 'b');
        due(x, 2, -1);
        s.faults("(long (enough) ())", 3);
        due(x, 0, 'a');
        due(x, 2, -1);
        s.type("zz");
        due(x, 0, 'a');
        s.object().read();
        s.tells("(define-syntax m (syntax-rules () ((_) 1)))", "");
        due(x, 0, -1);
        Session.end();
    }

    private static void due(MacroScopes x, int k, int want) {
        Session.due("character(" + k + ")", x.character(k), want);
    }
}
