import com.sun.management.ThreadMXBean;
import java.lang.management.ManagementFactory;

/** The dearest runs of 512 calls stay in their room, and no run of calls throws or fails to end. */
final class RoomTest {
    private static final long ROOM_BYTES = 4L * 1000 * 1000;
    private static long state = 7;

    private static long next() {
        state = state * 6364136223846793005L + 1442695040888963407L;
        return state >>> 16;
    }

    public static void main(String[] args) {
        ThreadMXBean threads = (ThreadMXBean) ManagementFactory.getThreadMXBean();
        dearest();
        long before = threads.getCurrentThreadAllocatedBytes();
        dearest();
        long bytes = threads.getCurrentThreadAllocatedBytes() - before;
        Session.due("bytes within the room (" + bytes + ")", bytes < ROOM_BYTES, true);
        anything();
        manyTexts();
        Session.end();
    }

    /** Each use makes as many forms and aliases as it may, 100 of them one within the other, again and again. */
    private static void dearest() {
        MacroScopes x = new MacroScopes();
        StringBuilder names = new StringBuilder();
        for (char a = 'a'; a <= 'z'; a++) {
            for (char b = 'a'; b <= 'v'; b++) {
                names.append(a).append(b).append(' ');
            }
        }
        Session.due("rules", Session.read(x, "(define-syntax r (syntax-rules () ((_ a ...) (r " + names + "))))"), 0);
        int calls = names.length() / 8 + 8;
        for (; calls < Session.CALLS; calls += 2) {
            x.type(0x28722029L, 4);
            int fault = x.read();
            if (fault != 2) {
                Session.due("read (r )", fault, 2);
            }
        }
    }

    private static void anything() {
        MacroScopes x = new MacroScopes();
        String characters = "(((())))  ab.._1if";
        for (int i = 0; i < 300000; i++) {
            int which = (int) (next() % 12);
            int number = next() % 3 == 0 ? (int) next() : (int) (next() % 20) - 5;
            if (which == 0) {
                x.read();
            } else if (which == 1) {
                x.means();
            } else if (which == 2) {
                x.count(number);
            } else if (which == 3) {
                x.character(number);
            } else if (which == 4) {
                x.type(next(), number);
            } else if (which == 5) {
                x.check();
            } else {
                x.type(characters.charAt((int) (next() % characters.length())), 1);
            }
        }
    }

    /** More calls than an object is used for: answers are free, but there are some. */
    private static void manyTexts() {
        MacroScopes x = new MacroScopes();
        for (int i = 0; i < 3000; i++) {
            Session.read(x, "(define-syntax m" + i + " (syntax-rules () ((_ a" + i + ") (m" + i / 2 + " b" + i + "))))");
            Session.read(x, "(m" + i + " 1) " + i);
            x.type('m', 1);
            x.means();
        }
        Session.due("rules kept", x.count(5) <= 4000, true);
        x = new MacroScopes();
        for (int i = 0; i < 5000; i++) {
            Session.read(x, "(define-syntax m (syntax-rules () ((_) x" + i + ")))");
        }
        x = new MacroScopes();
        for (int i = 0; i < 600; i++) {
            Session.read(x, "(define-syntax m (syntax-rules () ((_) 1)))" + (" y" + i + "z").repeat(20) + " u" + i + " v" + i
                + " w" + i + " a" + i + " b" + i + " c" + i + " d" + i + " e" + i + " f" + i + " g" + i);
        }
        Session.due("rules kept", x.count(5) <= 4000, true);
    }
}
