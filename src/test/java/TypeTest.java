/** Promise 2: what type() puts behind the typed text, and what it refuses. */
final class TypeTest {
    private static final long EIGHT = 0x4141414141414141L;

    private static void due(Session s, long characters, int n, int want) {
        Session.due("type(" + characters + ", " + n + ")", s.type(characters, n), want);
    }

    public static void main(String[] args) {
        takesTheLowestBytes();
        takes1To8();
        refusesOtherLengths();
        refusesOtherCharacters();
        looksAtTheLowestBytesAlone();
        takesUpTo3000();
        putsNothingWhenRefused();
        Session.end();
    }

    private static void takesTheLowestBytes() {
        Session.sentence("the lowest n bytes of a number, the highest of them first: how long it is");
        Session s = new Session();
        due(s, 0x6162636465666768L, 3, 3);
        due(s, 0xFFFFFFFFFFFFFF69L, 1, 4);
        due(s, 0x0000006A6B2031L, 4, 8);
        Session.due("read", s.read(), 0);
        Session.due("told", s.told(), "fghijk 1");
        due(s, 0x41L, 1, 1);
        Session.due("means empties the text", s.means(), 0);
        due(s, 0x41L, 1, 1);
    }

    private static void takes1To8() {
        Session.sentence("when n is not 1 .. 8");
        for (int n = 1; n <= 8; n++) {
            Session s = new Session();
            due(s, 0x6162636465666768L, n, n);
            due(s, 0x2020202020202020L, n, 2 * n);
            Session.due("read", s.read(), 0);
            Session.due("told", s.told(), "abcdefgh".substring(8 - n));
        }
    }

    private static void refusesOtherLengths() {
        Session.sentence("when n is not 1 .. 8");
        Session s = new Session();
        int[] others = {0, -1, -8, 9, 10, 16, 64, 256, 257, 3000, Integer.MAX_VALUE, Integer.MAX_VALUE - 1,
            Integer.MIN_VALUE, Integer.MIN_VALUE + 1};
        for (int n : others) {
            due(s, EIGHT, n, -1);
        }
        due(s, EIGHT, 8, 8);
        for (int n : others) {
            due(s, EIGHT, n, -1);
        }
        due(s, 0x41L, 1, 9);
        Session.due("read", s.read(), 0);
        Session.due("told", s.told(), "AAAAAAAAA");
    }

    private static void refusesOtherCharacters() {
        Session.sentence("one is not 32 .. 126");
        for (int c = 0; c < 256; c++) {
            boolean fits = c >= 32 && c <= 126;
            for (int at = 0; at < 8; at++) {
                Session s = new Session();
                due(s, 0x41L, 1, 1);
                due(s, EIGHT & ~(255L << 8 * at) | (long) c << 8 * at, 8, fits ? 9 : -1);
                due(s, 0x41L, 1, fits ? 10 : 2);
            }
            Session s = new Session();
            due(s, c, 1, fits ? 1 : -1);
            due(s, c, 1, fits ? 2 : -1);
        }
        for (int c = 33; c <= 126; c++) {
            if (c != '(' && c != ')' && (c < '0' || c > '9')) {
                Session s = new Session();
                due(s, c, 1, 1);
                Session.due("read of character " + c, s.read(), 0);
                Session.due("told", s.told(), "" + (char) c);
            }
        }
        Session s = new Session();
        for (long characters : new long[] {-1L, 0L, Long.MIN_VALUE, Long.MAX_VALUE, 0x8041414141414141L,
            0x1F41414141414141L, 0x7F41414141414141L, 0xC141414141414141L}) {
            due(s, characters, 8, -1);
        }
    }

    private static void looksAtTheLowestBytesAlone() {
        Session.sentence("the lowest n bytes of a number");
        for (int n = 1; n < 8; n++) {
            for (int c : new int[] {0, 31, 127, 128, 255}) {
                long bad = (long) c << 8 * n;
                Session s = new Session();
                due(s, EIGHT & (1L << 8 * n) - 1 | bad, n, n);
                due(s, EIGHT & (1L << 8 * n) - 1 | bad, n + 1, -1);
                due(s, 0x41L, 1, n + 1);
            }
        }
    }

    private static void takesUpTo3000() {
        Session.sentence("or there would be more than 3000");
        for (int n = 1; n <= 8; n++) {
            Session s = new Session();
            Session.due("typed", s.type(" ".repeat(3000 - n)), 3000 - n);
            if (n < 8) {
                due(s, EIGHT, n + 1, -1);
            }
            due(s, EIGHT, n, 3000);
            due(s, 0x20L, 1, -1);
            due(s, EIGHT, 8, -1);
            Session.due("read", s.read(), 0);
            Session.due("told", s.told(), "A".repeat(n));
            due(s, 0x20L, 1, 1);
        }
        Session s = new Session();
        String text = "abcdefghijk ".repeat(250);
        Session.due("typed", s.type(text), 3000);
        Session.due("read", s.read(), 0);
        Session.due("told", s.told(), text.trim());
    }

    private static void putsNothingWhenRefused() {
        Session.sentence("NONE, and nothing is put");
        Session s = new Session();
        due(s, Session.bytes("(f"), 2, 2);
        due(s, Session.bytes(" 1"), 0, -1);
        due(s, Session.bytes(" 2"), 9, -1);
        due(s, Session.bytes(" 3\u007f"), 3, -1);
        due(s, Session.bytes("\u001f4"), 2, -1);
        due(s, Session.bytes(" 5)"), 3, 5);
        Session.due("read", s.read(), 0);
        Session.due("told", s.told(), "(f 5)");
    }
}
