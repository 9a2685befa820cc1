import java.util.ArrayList;
import java.util.List;

/** Texts made by a fixed row of numbers, read by the class and by the plain model: all answers are the same. */
final class ModelTest {
    private static final int SESSIONS = Integer.getInteger("sessions", 6000);
    private static long state = Long.getLong("seed", 20261115L);

    private static final String[] NAMES = {"a", "b", "c", "x", "y", "m", "n", "k", "f", "else", "%0"};
    private static final String[] WORDS = {"if", "lambda", "quote", "let-syntax", "syntax-rules", "define",
        "define-syntax", "...", "_"};

    private static int below(int n) {
        state = state * 6364136223846793005L + 1442695040888963407L;
        return (int) ((state >>> 33) % n);
    }

    private static boolean oneIn(int n) {
        return below(n) == 0;
    }

    private static String name() {
        return oneIn(25) ? WORDS[below(WORDS.length)] : NAMES[below(NAMES.length)];
    }

    private static String number() {
        return oneIn(20) ? "007" : Integer.toString(below(oneIn(9) ? 1000000 : 4));
    }

    private static String row(List<String> parts) {
        return "(" + String.join(" ", parts) + ")";
    }

    private static String expression(int depth) {
        if (depth <= 0 || oneIn(4)) {
            return oneIn(3) ? number() : name();
        }
        switch (below(9)) {
            case 0:
                return "(if " + expression(depth - 1) + " " + expression(depth - 1) + " " + expression(depth - 1) + ")";
            case 1:
                return "(quote " + data(depth - 1) + ")";
            case 2:
            case 3:
                return lambda(expression(depth - 1));
            case 4:
                return letSyntax(depth);
            case 5:
            case 6:
            case 7:
                return use(depth);
            default:
                return application(depth);
        }
    }

    private static String lambda(String body) {
        List<String> names = new ArrayList<>();
        int n = oneIn(30) ? 7 : below(4);
        for (int i = 0; i < n; i++) {
            String name = name();
            if (!names.contains(name) || oneIn(30)) {
                names.add(name);
            }
        }
        return "(lambda " + row(names) + " " + body + ")";
    }

    private static String application(int depth) {
        List<String> parts = new ArrayList<>();
        int n = oneIn(60) ? 0 : 1 + below(4);
        for (int i = 0; i < n; i++) {
            parts.add(expression(depth - 1));
        }
        return row(parts);
    }

    private static String use(int depth) {
        List<String> parts = new ArrayList<>();
        parts.add(NAMES[3 + below(5)]);
        int n = below(5);
        for (int i = 0; i < n; i++) {
            parts.add(oneIn(3) ? data(2) : expression(depth - 1));
        }
        return row(parts);
    }

    private static String data(int depth) {
        if (depth <= 0 || oneIn(2)) {
            return oneIn(3) ? number() : name();
        }
        List<String> parts = new ArrayList<>();
        int n = below(4);
        for (int i = 0; i < n; i++) {
            parts.add(data(depth - 1));
        }
        return row(parts);
    }

    private static String letSyntax(int depth) {
        List<String> bindings = new ArrayList<>();
        List<String> names = new ArrayList<>();
        int n = oneIn(50) ? 0 : 1 + below(2);
        for (int i = 0; i < n; i++) {
            String name = oneIn(15) ? name() : NAMES[3 + below(5)];
            if (!names.contains(name) || oneIn(30)) {
                names.add(name);
                bindings.add("(" + name + " " + rules(depth - 1) + ")");
            }
        }
        return "(let-syntax " + row(bindings) + " " + expression(depth - 1) + ")";
    }

    private static String rules(int depth) {
        List<String> parts = new ArrayList<>();
        parts.add(oneIn(60) ? name() : "syntax-rules");
        List<String> literals = new ArrayList<>();
        int n = oneIn(40) ? 7 : oneIn(2) ? 0 : below(3);
        for (int i = 0; i < n; i++) {
            literals.add(oneIn(2) ? "else" : name());
        }
        parts.add(row(literals));
        int count = oneIn(40) ? below(10) : 1 + below(3);
        for (int i = 0; i < count; i++) {
            parts.add(rule(depth, literals));
        }
        return row(parts);
    }

    private static String rule(int depth, List<String> literals) {
        List<String> free = new ArrayList<>(List.of("a", "b", "c", "x", "y"));
        List<String> once = new ArrayList<>();
        List<String> repeated = new ArrayList<>();
        if (oneIn(12)) {
            String template = oneIn(2) ? "(quote ((a b) ... b ...))" : "(f (a (b c)) ... (b ...) a ...)";
            return "((_ (a ...) b ...) " + template + ")";
        }
        String pattern = pattern(2, literals, free, once, repeated, false, oneIn(3) ? name() : "_");
        return "(" + pattern + " " + template(1 + depth, once, repeated, false) + ")";
    }

    private static String pattern(int depth, List<String> literals, List<String> free, List<String> once,
            List<String> repeated, boolean again, String head) {
        List<String> parts = new ArrayList<>();
        int n = below(4);
        boolean dots = !again && oneIn(2) && n > 0;
        for (int i = 0; i < n; i++) {
            boolean thisAgain = again || dots && i == n - 1;
            parts.add(patternPart(depth, literals, free, once, repeated, thisAgain));
        }
        if (dots) {
            parts.add("...");
        }
        if (oneIn(60)) {
            parts.add(below(parts.size() + 1), name());
        }
        if (!head.isEmpty()) {
            parts.add(0, head);
        }
        return row(parts);
    }

    private static String patternPart(int depth, List<String> literals, List<String> free, List<String> once,
            List<String> repeated, boolean again) {
        if (depth > 0 && oneIn(4)) {
            return pattern(depth - 1, literals, free, once, repeated, again, "");
        }
        if (oneIn(10)) {
            return oneIn(2) ? number() : "_";
        }
        if (!literals.isEmpty() && oneIn(4)) {
            return literals.get(below(literals.size()));
        }
        if (free.isEmpty()) {
            return number();
        }
        String name = free.remove(below(free.size()));
        if (!literals.contains(name)) {
            (again ? repeated : once).add(name);
        }
        return name;
    }

    private static String template(int depth, List<String> once, List<String> repeated, boolean again) {
        if (depth <= 0 || oneIn(5)) {
            return templateName(once, again ? repeated : List.of());
        }
        switch (below(6)) {
            case 0:
                return lambda(template(depth - 1, once, repeated, again));
            case 1:
                return "(quote " + templateRow(depth - 1, once, repeated, again, "") + ")";
            case 2:
                return templateRow(depth, once, repeated, again, NAMES[3 + below(5)]);
            case 3:
                return oneIn(3) ? innerMacro(depth, once, repeated, again)
                    : "(if " + template(depth - 1, once, repeated, again) + " " + template(depth - 1, once, repeated, again)
                        + " " + template(depth - 1, once, repeated, again) + ")";
            default:
                return templateRow(depth, once, repeated, again, templateName(once, again ? repeated : List.of()));
        }
    }

    private static String innerMacro(int depth, List<String> once, List<String> repeated, boolean again) {
        String name = oneIn(2) ? templateName(once, List.of()) : "k";
        String inner = "(syntax-rules (" + (oneIn(3) ? templateName(once, List.of()) : "") + ") ((_ "
            + (oneIn(2) ? "z" : templateName(once, List.of())) + ") "
            + template(depth - 1, once, repeated, again) + "))";
        return "(let-syntax ((" + name + " " + inner + ")) (" + name + " " + template(depth - 1, once, repeated, again)
            + "))";
    }

    private static String templateName(List<String> once, List<String> repeated) {
        if (!repeated.isEmpty() && oneIn(2)) {
            return repeated.get(below(repeated.size()));
        }
        if (!once.isEmpty() && !oneIn(3)) {
            return once.get(below(once.size()));
        }
        return oneIn(3) ? number() : oneIn(80) ? "..." : name();
    }

    private static String templateRow(int depth, List<String> once, List<String> repeated, boolean again, String head) {
        List<String> parts = new ArrayList<>();
        if (!head.isEmpty()) {
            parts.add(head);
        }
        int n = below(4);
        for (int i = 0; i < n; i++) {
            if (!again && !repeated.isEmpty() && oneIn(2)) {
                String part = oneIn(2) ? repeated.get(below(repeated.size()))
                    : "(" + repeated.get(below(repeated.size())) + " " + template(depth - 1, once, repeated, true) + ")";
                parts.add(part);
                parts.add("...");
            } else {
                parts.add(template(depth - 1, once, repeated, again));
            }
        }
        return row(parts);
    }

    private static String topForm() {
        switch (below(8)) {
            case 0:
            case 1:
            case 2:
                return "(define-syntax " + (oneIn(20) ? name() : NAMES[3 + below(5)]) + " " + rules(2) + ")";
            case 3:
                return "(define " + (oneIn(3) ? name() : "f") + " " + expression(2) + ")";
            default:
                return expression(4);
        }
    }

    private static String text() {
        StringBuilder text = new StringBuilder();
        int n = below(5);
        for (int i = 0; i < n; i++) {
            text.append(topForm()).append(oneIn(3) ? " " : "");
        }
        if (oneIn(25) && text.length() > 0) {
            text.deleteCharAt(below(text.length()));
        }
        if (oneIn(25) && text.length() > 0) {
            text.insert(below(text.length()), "() ...".charAt(below(6)));
        }
        return text.toString();
    }

    public static void main(String[] args) {
        int[] met = new int[7];
        for (int i = 0; i < SESSIONS; i++) {
            Session session = new Session();
            PlainModel model = new PlainModel();
            int calls = 0;
            for (int k = 0; k < 8; k++) {
                String text = text();
                calls += text.length() / 8 + 12;
                if (text.length() > 3000 || calls > 500) {
                    continue;
                }
                met[compare(session, model, text)]++;
            }
        }
        System.out.println("texts by fault: " + java.util.Arrays.toString(met));
        for (int fault = 0; fault < met.length; fault++) {
            Session.due("texts enough with fault " + fault, met[fault] > 0, true);
        }
        Session.end();
    }

    static int compare(Session session, PlainModel model, String text) {
        int fault = model.read(text);
        Session.due("read " + text, session.read(text), fault);
        Session.due("place after " + text, session.place(), model.place);
        Session.due("told after " + text, session.told(), model.told);
        session.counts(model.told.length(), model.uses, model.variables, model.topForms, model.macroCount(),
            model.rulesSize(), -1);
        Session.due("check after " + text, session.check(), model.check());
        String name = oneIn(4) ? data(1) : name();
        Session.due("means " + name, session.means(name), model.means(name));
        return fault;
    }
}
