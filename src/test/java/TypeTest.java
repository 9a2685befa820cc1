/** Promise 2: what type() puts behind the typed text, and what it refuses. */
final class TypeTest {
    private static void due(MacroScopes x, long characters, int n, int want) {
        Session.due("type(" + characters + ", " + n + ")", x.type(characters, n), want);
    }

    public static void main(String[] args) {
        takesTheLowestBytes();
        refusesOtherLengths();
        refusesOtherCharacters();
        takesUpTo3000();
        Session.end();
    }

    private static void takesTheLowestBytes() {
        Session session = new Session();
        MacroScopes x = session.object();
        due(x, 0x6162636465666768L, 3, 3);
        due(x, 0xFFFFFFFFFFFFFF69L, 1, 4);
        due(x, 0x0000006A6B2031L, 4, 8);
        Session.due("read", x.read(), 0);
        Session.due("told", session.told(), "fghijk 1");
        due(x, 0x41L, 1, 1);
        Session.due("means empties the text", x.means(), 0);
        due(x, 0x41L, 1, 1);
    }

    private static void refusesOtherLengths() {
        MacroScopes x = new MacroScopes();
        for (int n : new int[] {0, -1, 9, 10, 64, Integer.MAX_VALUE, Integer.MIN_VALUE}) {
            due(x, 0x4141414141414141L, n, -1);
        }
        due(x, 0x4141414141414141L, 8, 8);
        due(x, 0x41L, 0, -1);
        due(x, 0x41L, 1, 9);
    }

    private static void refusesOtherCharacters() {
        MacroScopes x = new MacroScopes();
        for (int c = 0; c < 256; c++) {
            x.read();
            boolean fits = c >= 32 && c <= 126;
            due(x, c, 1, fits ? 1 : -1);
            due(x, 0x4141410041414141L | (long) c << 32, 8, fits ? 9 : -1);
            due(x, 0x41L | (long) c << 8, 2, fits ? 11 : -1);
            due(x, 0x41L | (long) c << 8, 1, fits ? 12 : 1);
        }
        x.read();
        due(x, 0x4100L, 2, -1);
        due(x, -1L, 8, -1);
        due(x, 0x8041414141414141L, 8, -1);
        due(x, 0x8041414141414141L, 7, 7);
    }

    private static void takesUpTo3000() {
        Session session = new Session();
        MacroScopes x = session.object();
        Session.due("typed", session.type(" ".repeat(2992)), 2992);
        due(x, 0x2020202020202020L, 8, 3000);
        due(x, 0x20L, 1, -1);
        Session.due("read of blanks", x.read(), 0);
        Session.due("typed", session.type(" ".repeat(2993)), 2993);
        due(x, 0x2020202020202020L, 8, -1);
        due(x, 0x20202020202031L, 7, 3000);
        due(x, 0x20L, 1, -1);
        Session.due("read", x.read(), 0);
        Session.due("told", session.told(), "1");
    }
}
