import java.util.ArrayList;
import java.util.HashMap;
import java.util.HashSet;
import java.util.List;
import java.util.Map;
import java.util.Set;

/**
 * The document told a second time, with trees, maps and exceptions and no thought of room or speed:
 * what MacroScopes answers is compared with it. No code is shared with the class.
 */
final class PlainModel {
    private static final Set<String> WORDS = Set.of("lambda", "if", "quote", "let-syntax", "syntax-rules");

    private static final class Fault extends RuntimeException {
        private static final long serialVersionUID = 1L;
        final int number;

        Fault(int number) {
            super(null, null, false, false);
            this.number = number;
        }
    }

    private interface Form { }

    private record Number(int value) implements Form { }

    private record Row(List<Form> parts) implements Form { }

    /** A symbol when it stands for nothing; each alias is an object of its own. */
    private static final class Name implements Form {
        final String root;
        final Name standsFor;
        final Macro macro;

        Name(String root, Name standsFor, Macro macro) {
            this.root = root;
            this.standsFor = standsFor;
            this.macro = macro;
        }

        boolean is(String symbol) {
            return root.equals(symbol);
        }

        boolean isSpecial() {
            return is("...") || is("_");
        }
    }

    private record Variable(int number) { }

    private record Environment(Environment around, Map<Name, Object> bound) { }

    private static final class Macro {
        Environment environment;
        Row rules;
    }

    private final Map<String, Name> symbols = new HashMap<>();
    private Map<String, Macro> macros = new HashMap<>();
    private int rulesSize;
    String told = "";
    int place = -1;
    int uses;
    int variables;
    int topForms;

    private int nowUses;
    private int nowVariables;
    private int nowLayers;
    private int nowRulesSize;

    int macroCount() {
        return macros.size();
    }

    int rulesSize() {
        return rulesSize;
    }

    // Reading

    private Name symbol(String text) {
        return symbols.computeIfAbsent(text, t -> new Name(t, null, null));
    }

    private static List<String> tokens(String text) {
        List<String> tokens = new ArrayList<>();
        for (String token : text.replace("(", " ( ").replace(")", " ) ").split(" ")) {
            if (!token.isEmpty()) {
                tokens.add(token);
            }
        }
        return tokens;
    }

    private static boolean tooLong(String token) {
        return token.matches("[0-9]+") ? token.length() > 6
            : token.length() > 12 && !token.equals("define-syntax");
    }

    private List<Form> forms(String text) {
        List<List<Form>> open = new ArrayList<>();
        open.add(new ArrayList<>());
        for (String token : tokens(text)) {
            List<Form> innermost = open.get(open.size() - 1);
            if (token.equals("(")) {
                if (open.size() - 1 > 60) {
                    throw new Fault(1);
                }
                open.add(new ArrayList<>());
            } else if (token.equals(")")) {
                if (open.size() == 1) {
                    throw new Fault(1);
                }
                open.remove(open.size() - 1);
                open.get(open.size() - 1).add(new Row(innermost));
            } else if (tooLong(token)) {
                throw new Fault(1);
            } else {
                innermost.add(token.matches("[0-9]+") ? new Number(Integer.parseInt(token)) : symbol(token));
            }
        }
        if (open.size() != 1) {
            throw new Fault(1);
        }
        return open.get(0);
    }

    int means(String text) {
        List<String> tokens = tokens(text);
        if (tokens.size() != 1 || tooLong(tokens.get(0)) || tokens.get(0).matches("[0-9]+|[()]")) {
            return -1;
        }
        String token = tokens.get(0);
        if (WORDS.contains(token) || token.equals("define") || token.equals("define-syntax")) {
            return 1;
        }
        return macros.containsKey(token) ? 2 : 0;
    }

    /** Only depth is looked at: what is told closes all that it opens. */
    int check() {
        int depth = 0;
        int most = 0;
        for (char c : told.toCharArray()) {
            depth += c == '(' ? 1 : c == ')' ? -1 : 0;
            most = Math.max(most, depth);
        }
        return most > 61 ? 0 : 1;
    }

    int read(String text) {
        Map<String, Macro> before = new HashMap<>(macros);
        nowUses = 0;
        nowVariables = 0;
        nowLayers = 0;
        nowRulesSize = rulesSize;
        place = -1;
        int at = -1;
        try {
            List<String> all = new ArrayList<>();
            List<Form> tops = forms(text);
            for (Form top : tops) {
                at++;
                topForm(top, all);
            }
            String now = String.join(" ", all);
            if (now.length() > 4000) {
                throw new Fault(2);
            }
            told = now;
            uses = nowUses;
            variables = nowVariables;
            topForms = tops.size();
            rulesSize = nowRulesSize;
            return 0;
        } catch (Fault fault) {
            macros = before;
            place = fault.number == 1 ? -1 : at;
            return fault.number;
        }
    }

    private static void want(boolean condition) {
        if (!condition) {
            throw new Fault(3);
        }
    }

    private static void limit(boolean tooMuch) {
        if (tooMuch) {
            throw new Fault(2);
        }
    }

    private void topForm(Form form, List<String> all) {
        if (form instanceof Row row && !row.parts.isEmpty() && row.parts.get(0) instanceof Name head) {
            if (head.is("define") || head.is("define-syntax")) {
                want(row.parts.size() == 3 && row.parts.get(1) instanceof Name);
                Name name = (Name) row.parts.get(1);
                want(!WORDS.contains(name.root) && !name.is("define") && !name.is("define-syntax") && !name.isSpecial());
                if (head.is("define")) {
                    all.add("(define " + name.root + " " + expand(row.parts.get(2), null, 1) + ")");
                    macros.remove(name.root);
                } else {
                    macros.put(name.root, macro(row.parts.get(2), null));
                    nowRulesSize += size(row.parts.get(2));
                    limit(nowRulesSize > 4000);
                }
                return;
            }
        }
        all.add(expand(form, null, 0));
    }

    // Meanings

    private Object meaning(Name name, Environment environment) {
        for (Environment e = environment; e != null; e = e.around) {
            if (e.bound.containsKey(name)) {
                return e.bound.get(name);
            }
        }
        if (name.standsFor != null) {
            return meaning(name.standsFor, name.macro.environment);
        }
        return macros.containsKey(name.root) ? macros.get(name.root) : name.root;
    }

    private static boolean isWord(Object meaning) {
        return meaning instanceof String && WORDS.contains(meaning);
    }

    // Expanding

    private String expand(Form form, Environment environment, int within) {
        if (form instanceof Number number) {
            return Integer.toString(number.value);
        }
        if (form instanceof Name name) {
            Object meaning = meaning(name, environment);
            if (meaning instanceof Macro || isWord(meaning)) {
                throw new Fault(4);
            }
            return meaning instanceof Variable variable ? "%" + variable.number : name.root;
        }
        List<Form> parts = ((Row) form).parts;
        limit(within > 100);
        want(!parts.isEmpty());
        if (parts.get(0) instanceof Name head) {
            Object meaning = meaning(head, environment);
            if (meaning instanceof Macro macro) {
                nowUses++;
                limit(nowUses > 100);
                return expand(use(macro, parts, environment), environment, within + 1);
            }
            if (isWord(meaning)) {
                return word((String) meaning, parts, environment, within);
            }
        }
        return expandAll("", parts, environment, within);
    }

    private String expandAll(String before, List<Form> parts, Environment environment, int within) {
        List<String> all = new ArrayList<>();
        if (!before.isEmpty()) {
            all.add(before);
        }
        for (Form part : parts) {
            all.add(expand(part, environment, within + 1));
        }
        return "(" + String.join(" ", all) + ")";
    }

    private String word(String word, List<Form> parts, Environment environment, int within) {
        switch (word) {
            case "quote":
                want(parts.size() == 2);
                return "(quote " + roots(parts.get(1)) + ")";
            case "if":
                want(parts.size() == 4);
                return expandAll("if", parts.subList(1, 4), environment, within);
            case "lambda":
                return lambda(parts, environment, within);
            case "let-syntax":
                return letSyntax(parts, environment, within);
            default:
                throw new Fault(3);
        }
    }

    private static String roots(Form form) {
        if (form instanceof Row row) {
            List<String> all = new ArrayList<>();
            for (Form part : row.parts) {
                all.add(roots(part));
            }
            return "(" + String.join(" ", all) + ")";
        }
        return form instanceof Name name ? name.root : Integer.toString(((Number) form).value);
    }

    private List<Form> bound(List<Form> parts, int least) {
        nowLayers++;
        limit(nowLayers > 250);
        want(parts.size() == 3 && parts.get(1) instanceof Row);
        List<Form> bound = ((Row) parts.get(1)).parts;
        want(bound.size() >= least && bound.size() <= 6);
        return bound;
    }

    private static Name newName(Form form, Map<Name, Object> bound) {
        want(form instanceof Name);
        Name name = (Name) form;
        want(!name.isSpecial() && !bound.containsKey(name));
        return name;
    }

    private String lambda(List<Form> parts, Environment environment, int within) {
        Map<Name, Object> bound = new HashMap<>();
        List<String> told = new ArrayList<>();
        for (Form part : bound(parts, 0)) {
            bound.put(newName(part, bound), new Variable(nowVariables));
            told.add("%" + nowVariables);
            nowVariables++;
        }
        String body = expand(parts.get(2), new Environment(environment, bound), within + 1);
        return "(lambda (" + String.join(" ", told) + ") " + body + ")";
    }

    private String letSyntax(List<Form> parts, Environment environment, int within) {
        Map<Name, Object> bound = new HashMap<>();
        Environment inner = new Environment(environment, bound);
        List<Form> bindings = bound(parts, 1);
        for (Form part : bindings) {
            want(part instanceof Row row && row.parts.size() == 2);
            bound.put(newName(((Row) part).parts.get(0), bound), new Macro());
        }
        for (Form part : bindings) {
            List<Form> binding = ((Row) part).parts;
            Macro ruled = macro(binding.get(1), inner);
            Macro macro = (Macro) bound.get((Name) binding.get(0));
            macro.environment = inner;
            macro.rules = ruled.rules;
        }
        return expand(parts.get(2), inner, within + 1);
    }

    // Rules

    private Macro macro(Form form, Environment environment) {
        want(form instanceof Row);
        Row row = (Row) form;
        want(row.parts.size() >= 3 && row.parts.size() <= 10);
        want(row.parts.get(0) instanceof Name head && "syntax-rules".equals(meaning(head, environment)));
        Set<Name> literals = literals(row);
        for (Form rule : row.parts.subList(2, row.parts.size())) {
            want(rule instanceof Row r && r.parts.size() == 2);
            lookAtRule(((Row) rule).parts.get(0), ((Row) rule).parts.get(1), literals);
        }
        Macro macro = new Macro();
        macro.environment = environment;
        macro.rules = row;
        return macro;
    }

    private static Set<Name> literals(Row rules) {
        want(rules.parts.get(1) instanceof Row);
        List<Form> parts = ((Row) rules.parts.get(1)).parts;
        want(parts.size() <= 6);
        Set<Name> literals = new HashSet<>();
        for (Form part : parts) {
            want(part instanceof Name name && !name.isSpecial());
            literals.add((Name) part);
        }
        return literals;
    }

    private static void lookAtRule(Form pattern, Form template, Set<Name> literals) {
        want(pattern instanceof Row row && !row.parts.isEmpty());
        List<Form> parts = ((Row) pattern).parts;
        Set<Name> once = new HashSet<>();
        Set<Name> repeated = new HashSet<>();
        lookAtPatterns(parts.subList(1, parts.size()), literals, false, once, repeated);
        lookAtTemplate(template, repeated, false);
    }

    private static boolean isDots(Form form) {
        return form instanceof Name name && name.is("...");
    }

    private static boolean holdsDots(Form form) {
        return isDots(form) || form instanceof Row row && row.parts.stream().anyMatch(PlainModel::holdsDots);
    }

    private static boolean holdsAny(Form form, Set<Name> names) {
        return form instanceof Name name && names.contains(name)
            || form instanceof Row row && row.parts.stream().anyMatch(part -> holdsAny(part, names));
    }

    private static void lookAtPatterns(List<Form> parts, Set<Name> literals, boolean again, Set<Name> once,
            Set<Name> repeated) {
        for (int i = 0; i < parts.size(); i++) {
            Form part = parts.get(i);
            if (isDots(part)) {
                want(i == parts.size() - 1 && i > 0 && !holdsDots(parts.get(i - 1)));
                continue;
            }
            boolean thisAgain = again || i + 1 < parts.size() && isDots(parts.get(i + 1));
            if (part instanceof Row row) {
                lookAtPatterns(row.parts, literals, thisAgain, once, repeated);
            } else if (part instanceof Name name && !name.is("_") && !literals.contains(name)) {
                want(!once.contains(name) && !repeated.contains(name));
                (thisAgain ? repeated : once).add(name);
            }
        }
    }

    private static void lookAtTemplate(Form form, Set<Name> repeated, boolean again) {
        want(!isDots(form));
        if (form instanceof Name name) {
            want(again || !repeated.contains(name));
        }
        if (form instanceof Row row) {
            for (int i = 0; i < row.parts.size(); i++) {
                boolean dots = i + 1 < row.parts.size() && isDots(row.parts.get(i + 1));
                if (dots) {
                    want(!holdsDots(row.parts.get(i)) && holdsAny(row.parts.get(i), repeated));
                }
                lookAtTemplate(row.parts.get(i), repeated, again || dots);
                i += dots ? 1 : 0;
            }
        }
    }

    // Uses

    private Form use(Macro macro, List<Form> list, Environment environment) {
        Set<Name> literals = literals(macro.rules);
        for (Form rule : macro.rules.parts.subList(2, macro.rules.parts.size())) {
            List<Form> parts = ((Row) rule).parts;
            List<Form> pattern = ((Row) parts.get(0)).parts;
            Map<Name, Object> matched = new HashMap<>();
            if (allMatch(pattern.subList(1, pattern.size()), list.subList(1, list.size()), macro, literals,
                    environment, matched)) {
                evenOrFault(parts.get(1), matched);
                Form made = make(parts.get(1), matched, new HashMap<>(), macro);
                limit(size(made) > 600 || height(made) > 61);
                return made;
            }
        }
        throw new Fault(5);
    }

    private boolean allMatch(List<Form> patterns, List<Form> forms, Macro macro, Set<Name> literals,
            Environment environment, Map<Name, Object> matched) {
        int last = patterns.size() - 1;
        boolean dots = last >= 0 && isDots(patterns.get(last));
        int single = dots ? last - 1 : patterns.size();
        if (dots ? forms.size() < single : forms.size() != single) {
            return false;
        }
        for (int i = 0; i < single; i++) {
            if (!matches(patterns.get(i), forms.get(i), macro, literals, environment, matched)) {
                return false;
            }
        }
        if (dots) {
            List<Map<Name, Object>> turns = new ArrayList<>();
            for (Form form : forms.subList(single, forms.size())) {
                Map<Name, Object> turn = new HashMap<>();
                if (!matches(patterns.get(single), form, macro, literals, environment, turn)) {
                    return false;
                }
                turns.add(turn);
            }
            for (Name name : variables(patterns.get(single), literals)) {
                List<Form> row = new ArrayList<>();
                turns.forEach(turn -> row.add((Form) turn.get(name)));
                matched.put(name, row);
            }
        }
        return true;
    }

    private static List<Name> variables(Form pattern, Set<Name> literals) {
        List<Name> variables = new ArrayList<>();
        if (pattern instanceof Name name && !name.isSpecial() && !literals.contains(name)) {
            variables.add(name);
        }
        if (pattern instanceof Row row) {
            row.parts.forEach(part -> variables.addAll(variables(part, literals)));
        }
        return variables;
    }

    private boolean matches(Form pattern, Form form, Macro macro, Set<Name> literals, Environment environment,
            Map<Name, Object> matched) {
        if (pattern instanceof Name name) {
            if (literals.contains(name)) {
                return form instanceof Name other
                    && meaning(name, macro.environment).equals(meaning(other, environment));
            }
            if (!name.is("_")) {
                matched.put(name, form);
            }
            return true;
        }
        if (pattern instanceof Number number) {
            return number.equals(form);
        }
        return form instanceof Row row
            && allMatch(((Row) pattern).parts, row.parts, macro, literals, environment, matched);
    }

    private static void evenOrFault(Form template, Map<Name, Object> matched) {
        if (template instanceof Row row) {
            for (int i = 0; i < row.parts.size(); i++) {
                if (i + 1 < row.parts.size() && isDots(row.parts.get(i + 1))) {
                    turns(row.parts.get(i), matched);
                }
                evenOrFault(row.parts.get(i), matched);
            }
        }
    }

    private static int turns(Form form, Map<Name, Object> matched) {
        Set<Integer> turns = new HashSet<>();
        addTurns(form, matched, turns);
        if (turns.size() > 1) {
            throw new Fault(6);
        }
        return turns.iterator().next();
    }

    private static void addTurns(Form form, Map<Name, Object> matched, Set<Integer> turns) {
        if (form instanceof Name name && matched.get(name) instanceof List<?> row) {
            turns.add(row.size());
        }
        if (form instanceof Row row) {
            row.parts.forEach(part -> addTurns(part, matched, turns));
        }
    }

    private static Form make(Form form, Map<Name, Object> matched, Map<Name, Name> aliases, Macro macro) {
        if (form instanceof Name name) {
            return matched.containsKey(name) ? (Form) matched.get(name)
                : aliases.computeIfAbsent(name, n -> new Name(n.root, n, macro));
        }
        if (!(form instanceof Row row)) {
            return form;
        }
        List<Form> made = new ArrayList<>();
        for (int i = 0; i < row.parts.size(); i++) {
            Form part = row.parts.get(i);
            if (i + 1 < row.parts.size() && isDots(row.parts.get(i + 1))) {
                int turns = turns(part, matched);
                for (int turn = 0; turn < turns; turn++) {
                    Map<Name, Object> inTurn = new HashMap<>(matched);
                    int now = turn;
                    matched.forEach((name, value) -> {
                        if (value instanceof List<?> all && all.size() == turns) {
                            inTurn.put(name, all.get(now));
                        }
                    });
                    made.add(make(part, inTurn, aliases, macro));
                }
                i++;
            } else {
                made.add(make(part, matched, aliases, macro));
            }
        }
        return new Row(made);
    }

    private static int size(Form form) {
        int size = 1;
        if (form instanceof Row row) {
            for (Form part : row.parts) {
                size += size(part);
            }
        }
        return size;
    }

    private static int height(Form form) {
        if (!(form instanceof Row row)) {
            return 0;
        }
        int height = 0;
        for (Form part : row.parts) {
            height = Math.max(height, height(part));
        }
        return height + 1;
    }
}
