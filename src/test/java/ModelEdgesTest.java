/** Texts with sizes close to the limits, several at once, read by the class and by the plain model. */
final class ModelEdgesTest {
    private static final int SESSIONS = Integer.getInteger("sessions", 1500);
    private static long state = Long.getLong("seed", 15112026L);

    private static int below(int n) {
        state = state * 6364136223846793005L + 1442695040888963407L;
        return (int) ((state >>> 33) % n);
    }

    private static boolean oneIn(int n) {
        return below(n) == 0;
    }

    /** A number close to a limit, most often just at it. */
    private static int near(int limit) {
        return Math.max(0, limit + (oneIn(2) ? below(2) : below(7) - 3));
    }

    private static String row(String text, int n) {
        return Session.row(text, n);
    }

    private static final String ONE = "(syntax-rules () ((_) 1))";

    /** A form around another, which puts it within one list more. */
    private static String around(String form) {
        switch (below(7)) {
            case 0:
                return "(if 1 " + form + " 2)";
            case 1:
                return "(lambda (x y) " + form + ")";
            case 2:
                return "(let-syntax ((k " + ONE + ")) " + form + ")";
            case 3:
                return "((f 1) " + form + ")";
            case 4:
                return "(i " + form + ")";
            default:
                return "(f " + form + ")";
        }
    }

    private static String around(String form, int times) {
        String text = form;
        for (int i = 0; i < times; i++) {
            text = around(text);
        }
        return text;
    }

    private static String last() {
        String[] forms = {"1", "x", "()", "(g)", "if", "(quote ())", "(if)", "(d)", "(lambda () 1)", "(let-syntax () 1)", "(quote x y)"};
        return forms[below(forms.length)];
    }

    private static String deepUses() {
        int lists = below(4);
        String define = "(define-syntax d (syntax-rules () ((_ a) a) ((_ a b ...) (d b ...))))"
            + "(define-syntax i (syntax-rules () ((_ a) a)))";
        String use = around("(d" + " 1".repeat(Math.max(0, near(99) - below(3))) + " " + around(last(), below(3)) + ")", lists);
        return define + (oneIn(4) ? "(define v " + use + ")" : use);
    }

    private static String muchMade() {
        int fixed = below(6);
        int times = 1 + below(3);
        boolean pairs = oneIn(3);
        String repeated = pairs ? "(a x) ..." : "a ...";
        String define = "(define-syntax m (syntax-rules () ((_ a ...) (quote (" + "1 ".repeat(fixed) + (repeated + " ").repeat(times) + ")))))";
        int forms = near((597 - fixed) / (times * (pairs ? 3 : 1)));
        return define + "(m" + " 1".repeat(forms) + ")" + (oneIn(3) ? last() : "");
    }

    private static String deepMade() {
        int depth = 1 + below(50);
        String define = "(define-syntax m (syntax-rules () ((_ a) (quote " + "(".repeat(depth) + "a" + ")".repeat(depth) + "))))";
        int lists = Math.min(60, near(60 - depth));
        return define + around("(m " + "(".repeat(lists) + ")".repeat(lists) + ")", below(3)) + (oneIn(3) ? last() : "");
    }

    private static String manyLayers() {
        int each = 10 + below(20);
        String one = oneIn(2) ? "(lambda () 1)" : "(let-syntax ((k " + ONE + ")) 1)";
        String define = "(define-syntax l (syntax-rules () ((_) (" + one.repeat(each) + "))))";
        int rest = Math.max(0, near(250 - 250 / each * each));
        return define + "(l)".repeat(250 / each) + "(lambda()1)".repeat(rest) + (oneIn(3) ? last() : "");
    }

    private static String muchTold() {
        String define = "(define-syntax t (syntax-rules () ((_ a) (quote (" + row("a", 100) + ")))))";
        int rest = Math.max(1, near(4000 - 3 * (2 + 8 + 1299) - 3));
        return define + "(t abcdefghijkl)".repeat(3) + (rest % 2 == 0 ? "10" : "7") + " 7".repeat((rest - 1) / 2)
            + (oneIn(4) ? last() : "") + (oneIn(4) ? "(define-syntax n " + ONE + ")" : "");
    }

    private static String manyUses() {
        String define = "(define-syntax d " + ONE + ")(define-syntax m (syntax-rules () ((_) (d)) ((_ a) (f a a))))";
        StringBuilder text = new StringBuilder(define);
        int uses = near(100);
        while (uses > 0) {
            int kind = uses > 3 ? below(3) : 0;
            text.append(kind == 0 ? "(d)" : kind == 1 ? "(m)" : "(m (d))");
            uses -= kind + 1;
        }
        return text + last();
    }

    private static String deepText() {
        int lists = near(61);
        return "(f ".repeat(lists) + "1" + ")".repeat(lists) + " " + last();
    }

    private static String deepTold() {
        int each = 1 + below(5);
        String define = "(define-syntax w (syntax-rules () ((_) 1) ((_ a b ...) " + "(f ".repeat(each) + "(w b ...)" + ")".repeat(each) + ")))";
        int forms = near(oneIn(2) ? 100 / (each + 1) : 61 / each);
        return define + around("(w" + " 1".repeat(forms) + ")", below(3)).replace("(i ", "(f ");
    }

    private static String edge() {
        return switch (below(8)) {
            case 0 -> deepUses();
            case 1 -> muchMade();
            case 2 -> deepMade();
            case 3 -> manyLayers();
            case 4 -> muchTold();
            case 5 -> manyUses();
            case 6 -> deepText();
            default -> deepTold();
        };
    }

    private static String text() {
        return (oneIn(3) ? "1 " : "") + (oneIn(6) ? "(define d 1) " : "") + edge();
    }

    public static void main(String[] args) {
        int[] met = new int[7];
        for (int i = 0; i < SESSIONS; i++) {
            Session session = new Session();
            PlainModel model = new PlainModel();
            int changes = 0;
            for (int k = 0; k < 3; k++) {
                String text = text();
                changes += text.length() / 8 + 6;
                if (text.length() <= 3000 && changes < 500) {
                    met[ModelTest.compare(session, model, text)]++;
                }
            }
        }
        System.out.println("texts by fault: " + java.util.Arrays.toString(met));
        Session.due("texts enough", met[0] > 0 && met[1] > 0 && met[2] > 0, true);
        Session.end();
    }
}
