import java.util.Arrays;

/**
 * Lists of names with macros told by rules, made into plain lists, in which each name stands for
 * what it stood for where it was written, whatever macros put around it.
 */
public final class MacroScopes {
    /** There is none, or nothing is done. */
    public static final int NONE = -1;

    private static final int TYPED_LIMIT = 3000;
    private static final int TOLD_LIMIT = 4000;
    private static final int NEST_LIMIT = 60;
    private static final int WITHIN_LIMIT = 100;
    private static final int USE_LIMIT = 100;
    private static final int LAYER_LIMIT = 250;
    private static final int MADE_LIMIT = 600;
    private static final int KEPT_LIMIT = 4000;
    private static final int BOUND_LIMIT = 6;
    private static final int LITERAL_LIMIT = 6;
    private static final int RULE_LIMIT = 8;
    private static final int DIGIT_LIMIT = 6;
    private static final int SYMBOL_LENGTH = 12;
    private static final int HALF_LENGTH = 8;
    private static final int SYMBOL_LIMIT = 2560;
    private static final int STEP_LIMIT = 1000000;

    private static final int FAULT_BRACKETS = 1;
    private static final int FAULT_TOO_MUCH = 2;
    private static final int FAULT_UNFIT = 3;
    private static final int FAULT_WORD_ALONE = 4;
    private static final int FAULT_NO_RULE = 5;
    private static final int FAULT_UNEVEN = 6;

    // The first symbols of every object; the words come first, so that a symbol below DEFINE is one.
    private static final int LAMBDA = 0;
    private static final int IF = 1;
    private static final int QUOTE = 2;
    private static final int LET_SYNTAX = 3;
    private static final int SYNTAX_RULES = 4;
    private static final int DEFINE = 5;
    private static final int DEFINE_SYNTAX = 6;
    private static final int DOTS = 7;
    private static final int ANY = 8;

    // A meaning is a number times 4 and one of these kinds.
    private static final int MEANS_SYMBOL = 0;
    private static final int MEANS_VARIABLE = 1;
    private static final int MEANS_BOUND_MACRO = 2;
    private static final int MEANS_DEFINED_MACRO = 3;

    private final char[] typed = new char[TYPED_LIMIT];
    private final Names names = new Names();
    private final Forms forms = new Forms();
    private final Told told = new Told();
    private final Reader reader = new Reader(forms, names);
    private final Expander expander = new Expander(forms, names, told);
    private int typedLength = 0;
    private int place = NONE;
    private int uses = 0;
    private int variables = 0;
    private int topForms = 0;

    public MacroScopes() {
    }

    public int type(long characters, int n) {
        if (n < 1 || n > 8 || typedLength + n > TYPED_LIMIT) {
            return NONE;
        }
        for (int i = 0; i < n; i++) {
            int c = byteOf(characters, i);
            if (c < 32 || c > 126) {
                return NONE;
            }
        }
        for (int i = n - 1; i >= 0; i--) {
            typed[typedLength] = (char) byteOf(characters, i);
            typedLength++;
        }
        return typedLength;
    }

    public int read() {
        int keptBefore = forms.kept;
        names.startText();
        forms.startText();
        told.startText();
        place = NONE;
        int fault = reader.addForms(typed, typedLength);
        typedLength = 0;
        if (fault == 0) {
            fault = expander.tellText();
            place = fault == 0 ? NONE : expander.place;
        }
        if (fault == 0) {
            takeText(forms.kept > keptBefore);
        } else {
            forms.kept = keptBefore;
            names.takeBack();
        }
        return fault;
    }

    public int place() {
        return place;
    }

    public int count(int what) {
        switch (what) {
            case 0:
                return told.takenLength;
            case 1:
                return uses;
            case 2:
                return variables;
            case 3:
                return topForms;
            case 4:
                return names.macros();
            case 5:
                return forms.kept;
            default:
                return NONE;
        }
    }

    public int character(int k) {
        return told.at(k);
    }

    public int means() {
        int from = reader.tokenFrom(typed, 0, typedLength);
        int to = reader.tokenEnd(typed, from, typedLength);
        boolean alone = reader.tokenFrom(typed, to, typedLength) == typedLength;
        typedLength = 0;
        if (!alone || !reader.isSymbol(typed, from, to)) {
            return NONE;
        }
        int symbol = reader.symbolOf(typed, from, to);
        if (symbol == NONE) {
            return 0;
        }
        if (symbol <= DEFINE_SYNTAX) {
            return 1;
        }
        return names.rulesOf(symbol) == NONE ? 0 : 2;
    }

    public int check() {
        return told.canBeRead() ? 1 : 0;
    }

    private static int byteOf(long characters, int i) {
        return (int) (characters >>> (8 * i)) & 255;
    }

    private void takeText(boolean definesMacros) {
        told.take();
        uses = expander.uses;
        variables = expander.variables;
        topForms = expander.place + 1;
        names.take(definesMacros);
    }

    /**
     * Forms stand one behind the other, each list before its parts, so that a form with all its
     * parts is one row of places. The rules of define-syntax are kept in the lowest places.
     */
    private static final class Forms {
        private static final int LIST = -1;
        private static final int FEW = KEPT_LIMIT + TYPED_LIMIT + 5 * MADE_LIMIT;
        private static final int ALL = KEPT_LIMIT + TYPED_LIMIT + (USE_LIMIT + 1) * MADE_LIMIT;

        private int[] what = new int[FEW];
        private int[] span = new int[FEW];
        private int top = KEPT_LIMIT;
        private int kept = 0;

        void startText() {
            top = KEPT_LIMIT;
        }

        /** Most texts use few macros: the places that 100 uses can need are made for the first that wants more. */
        void makeRoom() {
            if (top + MADE_LIMIT > what.length && what.length < ALL) {
                what = Arrays.copyOf(what, ALL);
                span = Arrays.copyOf(span, ALL);
            }
        }

        int add(int form) {
            if (top < 0 || top >= what.length) {
                return NONE;
            }
            what[top] = form;
            span[top] = 1;
            top++;
            return top - 1;
        }

        static int ofNumber(int value) {
            return 2 * value;
        }

        static int ofName(int name) {
            return 2 * name + 1;
        }

        void endList(int list) {
            if (list >= 0 && list < top && list < span.length) {
                span[list] = top - list;
            }
        }

        int whatIs(int form) {
            return form >= 0 && form < what.length ? what[form] : 0;
        }

        boolean isList(int form) {
            return form >= 0 && form < what.length && what[form] == LIST;
        }

        int nameOf(int form) {
            int is = form >= 0 && form < what.length ? what[form] : 0;
            return is > 0 && (is & 1) == 1 ? is >> 1 : NONE;
        }

        int numberOf(int form) {
            return whatIs(form) >> 1;
        }

        int size(int form) {
            return form >= 0 && form < span.length ? span[form] : 0;
        }

        /** The place behind a form and its parts, always a later one. */
        int after(int form) {
            return form >= 0 && form < span.length && span[form] > 1 ? form + span[form] : form + 1;
        }

        /** The name that a list begins with. */
        int head(int form) {
            return isList(form) && size(form) > 1 ? nameOf(form + 1) : NONE;
        }

        int parts(int form) {
            int parts = 0;
            if (isList(form)) {
                for (int part = form + 1; part < after(form); part = after(part)) {
                    parts++;
                }
            }
            return parts;
        }

        int part(int form, int number) {
            int part = form + 1;
            for (int i = 0; i < number; i++) {
                part = after(part);
            }
            return part;
        }

        boolean holdsDots(int form) {
            for (int place = form; place < after(form); place++) {
                if (nameOf(place) == DOTS) {
                    return true;
                }
            }
            return false;
        }

        /** Whether ... stands behind a form, in a row of forms that ends before end. */
        boolean isRepeated(int form, int end) {
            return after(form) < end && nameOf(after(form)) == DOTS;
        }

        int keep(int form) {
            int size = size(form);
            if (form < KEPT_LIMIT || form + size > what.length || kept + size > KEPT_LIMIT) {
                return NONE;
            }
            System.arraycopy(what, form, what, kept, size);
            System.arraycopy(span, form, span, kept, size);
            kept += size;
            return kept - size;
        }
    }

    /** Symbols, and behind them the aliases that are in use, which a new text begins without. */
    private static final class Names {
        private static final int FEW = SYMBOL_LIMIT + 2 * MADE_LIMIT;
        private static final int ALL = SYMBOL_LIMIT + (USE_LIMIT + 1) * (MADE_LIMIT + 1);

        private final long[] firstHalf = new long[SYMBOL_LIMIT];
        private final long[] secondHalf = new long[SYMBOL_LIMIT];
        private final int[] rules = new int[SYMBOL_LIMIT];
        private final int[] rulesBefore = new int[SYMBOL_LIMIT];
        private int symbols = 0;
        private int symbolsBefore = 0;
        private int[] original = new int[FEW];
        private int[] home = new int[FEW];
        private int[] binding = new int[FEW];
        private int[] mark = new int[FEW];
        private int[] note = new int[FEW];
        private int top = 0;
        private int latestMark = 0;

        Names() {
            addGiven("lambda");
            addGiven("if");
            addGiven("quote");
            addGiven("let-syntax");
            addGiven("syntax-rules");
            addGiven("define");
            addGiven("define-syntax");
            addGiven("...");
            addGiven("_");
        }

        private void addGiven(String symbol) {
            char[] characters = symbol.toCharArray();
            addSymbol(half(characters, 0, characters.length), half(characters, HALF_LENGTH, characters.length));
        }

        /** Up to 8 characters as one number: two of them hold any symbol. */
        static long half(char[] characters, int from, int to) {
            long half = 0;
            for (int i = from; i < to && i < from + HALF_LENGTH && i >= 0 && i < characters.length; i++) {
                half = half << 8 | characters[i];
            }
            return half;
        }

        void startText() {
            top = symbols;
            symbolsBefore = symbols;
            System.arraycopy(rules, 0, rulesBefore, 0, symbols);
        }

        void takeBack() {
            System.arraycopy(rulesBefore, 0, rules, 0, symbolsBefore);
            symbols = symbolsBefore;
        }

        /** Symbols that no kept rules can have are not kept either. */
        void take(boolean keepsSymbols) {
            if (!keepsSymbols) {
                symbols = symbolsBefore;
            }
        }

        int find(long first, long second) {
            for (int symbol = 0; symbol < symbols; symbol++) {
                if (firstHalf[symbol] == first && secondHalf[symbol] == second) {
                    return symbol;
                }
            }
            return NONE;
        }

        int addSymbol(long first, long second) {
            if (symbols >= SYMBOL_LIMIT) {
                return NONE;
            }
            firstHalf[symbols] = first;
            secondHalf[symbols] = second;
            rules[symbols] = NONE;
            symbols++;
            return addName(NONE, 0);
        }

        int addName(int standsFor, int environment) {
            if (top >= original.length) {
                return NONE;
            }
            original[top] = standsFor;
            home[top] = environment;
            binding[top] = NONE;
            mark[top] = 0;
            top++;
            return top - 1;
        }

        void makeRoom() {
            if (top + MADE_LIMIT + 1 > original.length && original.length < ALL) {
                original = Arrays.copyOf(original, ALL);
                home = Arrays.copyOf(home, ALL);
                binding = Arrays.copyOf(binding, ALL);
                mark = Arrays.copyOf(mark, ALL);
                note = Arrays.copyOf(note, ALL);
            }
        }

        boolean has(int name) {
            return name >= 0 && name < top;
        }

        /** Which name an alias stands for; it is always an older one. */
        int originalOf(int name) {
            return has(name) ? original[name] : NONE;
        }

        int root(int name) {
            int root = name;
            for (int older = originalOf(root); older >= 0 && older < root; older = originalOf(root)) {
                root = older;
            }
            return root;
        }

        int rulesOf(int symbol) {
            return symbol >= 0 && symbol < symbols ? rules[symbol] : NONE;
        }

        void setRules(int symbol, int form) {
            if (symbol >= 0 && symbol < symbols) {
                rules[symbol] = form;
            }
        }

        int macros() {
            int macros = 0;
            for (int symbol = 0; symbol < symbols; symbol++) {
                if (rules[symbol] != NONE) {
                    macros++;
                }
            }
            return macros;
        }

        /** Notes are of one rule at a time: a new mark makes all older ones void. */
        void clearNotes() {
            latestMark++;
        }

        boolean isNoted(int name) {
            return name >= 0 && name < top && mark[name] == latestMark;
        }

        int noteOf(int name) {
            return name >= 0 && name < top && mark[name] == latestMark ? note[name] : NONE;
        }

        void setNote(int name, int value) {
            if (has(name)) {
                mark[name] = latestMark;
                note[name] = value;
            }
        }

        static boolean canBeBound(int name) {
            return name != NONE && name != DOTS && name != ANY;
        }
    }

    /**
     * All bindings in force, the innermost last. A new environment is always made within the one in
     * use, and left before that is: so an environment is told by how many bindings it sees.
     */
    private static final class Scopes {
        private static final int MOST = (WITHIN_LIMIT + 1) * BOUND_LIMIT;

        private final Names names;
        private final int[] name = new int[MOST];
        private final int[] outer = new int[MOST];
        private final int[] value = new int[MOST];
        private final int[] home = new int[MOST];
        private int top = 0;

        Scopes(Names names) {
            this.names = names;
        }

        void bindVariable(int newName, int number) {
            bind(newName, number, NONE);
        }

        void bindMacro(int newName, int rules, int environment) {
            bind(newName, rules, environment);
        }

        private void bind(int newName, int newValue, int environment) {
            if (top < MOST && names.has(newName)) {
                name[top] = newName;
                outer[top] = names.binding[newName];
                value[top] = newValue;
                home[top] = environment;
                names.binding[newName] = top;
                top++;
            }
        }

        boolean isBoundSince(int older, int newName) {
            return names.has(newName) && names.binding[newName] >= older;
        }

        void leaveTo(int older) {
            while (top > 0 && top > older) {
                top--;
                if (names.has(name[top])) {
                    names.binding[name[top]] = outer[top];
                }
            }
        }

        /** A symbol means the same number with the kind MEANS_SYMBOL, if nothing binds or defines it. */
        int meaning(int ofName, int inEnvironment) {
            int environment = inEnvironment;
            // The name behind an alias and the binding behind another one are always older: so both loops go down.
            for (int at = ofName; names.has(at); at = Math.min(at - 1, names.original[at])) {
                int found = names.binding[at];
                while (found >= 0 && found >= environment && found < MOST) {
                    found = Math.min(found - 1, outer[found]);
                }
                if (found >= 0 && found < MOST) {
                    return home[found] == NONE ? 4 * value[found] + MEANS_VARIABLE : 4 * found + MEANS_BOUND_MACRO;
                }
                if (names.original[at] == NONE) {
                    return 4 * at + (names.rulesOf(at) == NONE ? MEANS_SYMBOL : MEANS_DEFINED_MACRO);
                }
                environment = names.home[at];
            }
            return NONE;
        }

        static boolean isWord(int meaning) {
            return meaning >= 0 && (meaning & 3) == MEANS_SYMBOL && meaning >> 2 < DEFINE;
        }

        static boolean isMacro(int meaning) {
            return meaning >= 0 && (meaning & 3) >= MEANS_BOUND_MACRO;
        }

        int rulesOf(int macro) {
            int at = macro >> 2;
            if ((macro & 3) == MEANS_DEFINED_MACRO) {
                return names.rulesOf(at);
            }
            return at >= 0 && at < top ? value[at] : NONE;
        }

        /** The environment of a macro. */
        int homeOf(int macro) {
            int at = macro >> 2;
            return (macro & 3) == MEANS_BOUND_MACRO && at >= 0 && at < top ? home[at] : 0;
        }
    }

    /** Makes forms of typed characters. */
    private static final class Reader {
        private final Forms forms;
        private final Names names;
        private final int[] open = new int[NEST_LIMIT + 1];
        private int opened = 0;

        Reader(Forms forms, Names names) {
            this.forms = forms;
            this.names = names;
        }

        int addForms(char[] text, int length) {
            opened = 0;
            int fault = 0;
            int next = 0;
            for (int from = tokenFrom(text, 0, length); from < length && fault == 0; from = Math.max(from + 1, next)) {
                int to = tokenEnd(text, from, length);
                fault = addToken(text, from, to);
                next = tokenFrom(text, to, length);
            }
            return fault == 0 && opened > 0 ? FAULT_BRACKETS : fault;
        }

        private int addToken(char[] text, int from, int to) {
            char first = from >= 0 && from < text.length ? text[from] : ' ';
            if (first == '(') {
                return openList();
            }
            if (first == ')') {
                return closeList();
            }
            if (isNumber(text, from, to)) {
                return addNumber(text, from, to);
            }
            return isSymbol(text, from, to) ? addSymbol(text, from, to) : FAULT_BRACKETS;
        }

        private int openList() {
            if (opened >= open.length) {
                return FAULT_BRACKETS;
            }
            open[opened] = forms.add(Forms.LIST);
            opened++;
            return 0;
        }

        private int closeList() {
            if (opened == 0) {
                return FAULT_BRACKETS;
            }
            opened--;
            forms.endList(open[opened]);
            return 0;
        }

        private int addNumber(char[] text, int from, int to) {
            int value = 0;
            for (int i = from; i >= 0 && i < to && i < text.length; i++) {
                value = 10 * value + (text[i] - '0');
            }
            forms.add(Forms.ofNumber(value));
            return 0;
        }

        private int addSymbol(char[] text, int from, int to) {
            int symbol = symbolOf(text, from, to);
            if (symbol == NONE) {
                symbol = names.addSymbol(Names.half(text, from, to), Names.half(text, from + HALF_LENGTH, to));
            }
            if (symbol == NONE) {
                return FAULT_TOO_MUCH;
            }
            forms.add(Forms.ofName(symbol));
            return 0;
        }

        int tokenFrom(char[] text, int behind, int length) {
            int from = behind;
            while (from >= 0 && from < length && from < text.length && text[from] == ' ') {
                from++;
            }
            return from;
        }

        int tokenEnd(char[] text, int from, int length) {
            int end = from;
            while (end >= 0 && end < length && end < text.length && !isBreak(text[end])) {
                end++;
            }
            return end == from && from < length ? from + 1 : end;
        }

        private static boolean isBreak(char c) {
            return c == ' ' || c == '(' || c == ')';
        }

        private static boolean isDigits(char[] text, int from, int to) {
            for (int i = from; i >= 0 && i < to && i < text.length; i++) {
                if (text[i] < '0' || text[i] > '9') {
                    return false;
                }
            }
            return from < to;
        }

        private static boolean isNumber(char[] text, int from, int to) {
            return to - from <= DIGIT_LIMIT && isDigits(text, from, to);
        }

        /** More digits than a number may have make a token too long, not a symbol. */
        boolean isSymbol(char[] text, int from, int to) {
            if (from < 0 || from >= to || to > text.length || isBreak(text[from]) || isDigits(text, from, to)) {
                return false;
            }
            return to - from <= SYMBOL_LENGTH
                || to - from <= 2 * HALF_LENGTH && symbolOf(text, from, to) == DEFINE_SYNTAX;
        }

        int symbolOf(char[] text, int from, int to) {
            return names.find(Names.half(text, from, to), Names.half(text, from + HALF_LENGTH, to));
        }
    }

    /** Whether rules are as the document wants them. */
    private static final class RuleCheck {
        private static final int ONCE = 0;
        private static final int REPEATED = 1;

        private final Forms forms;
        private final Names names;
        private final Scopes scopes;
        private int literals = NONE;

        RuleCheck(Forms forms, Names names, Scopes scopes) {
            this.forms = forms;
            this.names = names;
            this.scopes = scopes;
        }

        boolean fits(int rules, int environment) {
            int parts = forms.parts(rules);
            int head = forms.head(rules);
            if (parts < 3 || parts > 2 + RULE_LIMIT || head == NONE) {
                return false;
            }
            literals = forms.part(rules, 1);
            if (scopes.meaning(head, environment) != 4 * SYNTAX_RULES + MEANS_SYMBOL || !literalsFit()) {
                return false;
            }
            for (int rule = forms.part(rules, 2); rule < forms.after(rules); rule = forms.after(rule)) {
                if (!ruleFits(rule)) {
                    return false;
                }
            }
            return true;
        }

        private boolean literalsFit() {
            if (!forms.isList(literals) || forms.parts(literals) > LITERAL_LIMIT) {
                return false;
            }
            for (int literal = literals + 1; literal < forms.after(literals); literal = forms.after(literal)) {
                if (!Names.canBeBound(forms.nameOf(literal))) {
                    return false;
                }
            }
            return true;
        }

        private boolean ruleFits(int rule) {
            int pattern = rule + 1;
            if (forms.parts(rule) != 2 || forms.parts(pattern) == 0) {
                return false;
            }
            names.clearNotes();
            return patternsFit(forms.part(pattern, 1), forms.after(pattern), ONCE)
                && templateFits(forms.after(pattern), ONCE);
        }

        /** Forms of a pattern nest no deeper than texts and made forms may. */
        private boolean patternsFit(int from, int end, int times) {
            for (int part = from; part < end; part = forms.after(part)) {
                boolean isDots = forms.nameOf(part) == DOTS;
                if (isDots && (part == from || forms.after(part) < end)) {
                    return false;
                }
                if (!isDots && !patternFits(part, forms.isRepeated(part, end), times)) {
                    return false;
                }
            }
            return true;
        }

        private boolean patternFits(int part, boolean repeated, int times) {
            if (repeated && forms.holdsDots(part)) {
                return false;
            }
            int partTimes = repeated ? REPEATED : times;
            if (forms.isList(part)) {
                return patternsFit(part + 1, forms.after(part), partTimes);
            }
            int name = forms.nameOf(part);
            if (name == NONE || name == ANY || isLiteral(forms, literals, name)) {
                return true;
            }
            if (names.isNoted(name)) {
                return false;
            }
            names.setNote(name, partTimes);
            return true;
        }

        private boolean templateFits(int form, int times) {
            if (!forms.isList(form)) {
                return forms.nameOf(form) != DOTS && (times == REPEATED || !holdsRepeated(form));
            }
            int end = forms.after(form);
            int next = 0;
            for (int part = form + 1; part < end; part = next) {
                boolean repeated = forms.isRepeated(part, end);
                if (repeated && (forms.holdsDots(part) || !holdsRepeated(part))) {
                    return false;
                }
                if (!templateFits(part, repeated ? REPEATED : times)) {
                    return false;
                }
                next = repeated ? forms.after(forms.after(part)) : forms.after(part);
            }
            return true;
        }

        private boolean holdsRepeated(int form) {
            for (int place = form; place < forms.after(form); place++) {
                if (names.noteOf(forms.nameOf(place)) == REPEATED) {
                    return true;
                }
            }
            return false;
        }

        static boolean isLiteral(Forms forms, int literals, int name) {
            for (int literal = literals + 1; literal < forms.after(literals); literal++) {
                if (forms.nameOf(literal) == name) {
                    return true;
                }
            }
            return false;
        }
    }

    /** What the variables of a rule matched: a row of forms for each, which a note at its name tells. */
    private static final class Matches {
        private static final int ONE = -1;

        private final int[] first = new int[TYPED_LIMIT];
        private final int[] apart = new int[TYPED_LIMIT];
        private final int[] times = new int[TYPED_LIMIT];
        private final int[] matched = new int[TYPED_LIMIT];
        private int variables = 0;
        private int forms = 0;

        void clear() {
            variables = 0;
            forms = 0;
        }

        int addVariable(int firstForm) {
            if (variables < TYPED_LIMIT) {
                first[variables] = firstForm;
                apart[variables] = 0;
                times[variables] = ONE;
                variables++;
            }
            return variables - 1;
        }

        void addForm(int form) {
            if (forms < TYPED_LIMIT) {
                matched[forms] = form;
                forms++;
            }
        }

        /** Variables that are repeated together match in turns, each once in a turn. */
        void repeat(int since, int turns) {
            for (int i = Math.max(0, since); i < variables; i++) {
                apart[i] = variables - since;
                times[i] = turns;
            }
        }

        int timesOf(int variable) {
            return variable >= 0 && variable < variables ? times[variable] : ONE;
        }

        int formOf(int variable, int turn) {
            if (variable < 0 || variable >= variables) {
                return NONE;
            }
            int at = first[variable] + turn * apart[variable];
            return at >= 0 && at < forms ? matched[at] : NONE;
        }
    }

    /** Finds the rule that matches a use. */
    private static final class Matcher {
        private final Forms forms;
        private final Names names;
        private final Scopes scopes;
        private final Matches matches;
        private int literals = NONE;
        private int home = 0;

        Matcher(Forms forms, Names names, Scopes scopes, Matches matches) {
            this.forms = forms;
            this.names = names;
            this.scopes = scopes;
            this.matches = matches;
        }

        int ruleFor(int use, int rules, int environment) {
            literals = forms.part(rules, 1);
            home = environment;
            for (int rule = forms.part(rules, 2); rule < forms.after(rules); rule = forms.after(rule)) {
                names.clearNotes();
                matches.clear();
                int pattern = rule + 1;
                if (rowMatches(pattern, forms.part(pattern, 1), use, forms.part(use, 1), false)) {
                    return rule;
                }
            }
            return NONE;
        }

        /** Whether the parts of a list match those of a pattern, from two of them on. */
        private boolean rowMatches(int pattern, int fromPattern, int list, int from, boolean repeated) {
            int end = forms.after(list);
            int form = from;
            for (int part = fromPattern; part < forms.after(pattern); part = forms.after(part)) {
                if (forms.isRepeated(part, forms.after(pattern))) {
                    return restMatches(part, form, end);
                }
                if (form >= end || !formMatches(part, form, repeated)) {
                    return false;
                }
                form = forms.after(form);
            }
            return form >= end;
        }

        private boolean restMatches(int pattern, int from, int end) {
            int since = matches.variables;
            addVariables(pattern);
            int turns = 0;
            for (int form = from; form < end; form = forms.after(form)) {
                if (!formMatches(pattern, form, true)) {
                    return false;
                }
                turns++;
            }
            matches.repeat(since, turns);
            return true;
        }

        private void addVariables(int pattern) {
            int first = matches.forms;
            for (int place = pattern; place < forms.after(pattern); place++) {
                int name = forms.nameOf(place);
                if (isVariable(name)) {
                    names.setNote(name, matches.addVariable(first));
                    first++;
                }
            }
        }

        private boolean formMatches(int pattern, int form, boolean repeated) {
            int name = forms.nameOf(pattern);
            if (name == ANY) {
                return true;
            }
            if (isVariable(name)) {
                if (!repeated) {
                    names.setNote(name, matches.addVariable(matches.forms));
                }
                matches.addForm(form);
                return true;
            }
            if (name != NONE) {
                return isMeant(name, forms.nameOf(form));
            }
            if (!forms.isList(pattern)) {
                return forms.whatIs(pattern) == forms.whatIs(form);
            }
            return forms.isList(form) && rowMatches(pattern, pattern + 1, form, form + 1, repeated);
        }

        private boolean isVariable(int name) {
            return Names.canBeBound(name) && !RuleCheck.isLiteral(forms, literals, name);
        }

        private boolean isMeant(int literal, int name) {
            return name != NONE && scopes.meaning(literal, home) == scopes.meaning(name, scopes.top);
        }
    }

    /** Makes what a rule's template tells of what its variables matched. */
    private static final class Maker {
        private static final int UNEVEN = -2;
        // A variable's note is not below 0; that of a name with an alias is this less the alias.
        private static final int ALIASED = -2;

        private final Forms forms;
        private final Names names;
        private final Matches matches;
        private int home = 0;
        private int start = 0;
        private boolean tooMuch = false;

        Maker(Forms forms, Names names, Matches matches) {
            this.forms = forms;
            this.names = names;
            this.matches = matches;
        }

        /** Puts what is made behind all forms; answers the fault. */
        int make(int template, int environment) {
            if (!isEven(template)) {
                return FAULT_UNEVEN;
            }
            forms.makeRoom();
            names.makeRoom();
            home = environment;
            start = forms.top;
            tooMuch = false;
            build(template, 0, 0);
            return tooMuch ? FAULT_TOO_MUCH : 0;
        }

        /**
         * A form that only ends where one with ... behind it ends is looked at, too: that can tell
         * nothing else, since all its variables are that one's.
         */
        private boolean isEven(int template) {
            int end = forms.after(template);
            for (int form = template; form < end; form++) {
                if (forms.isRepeated(form, end) && turnsOf(form) == UNEVEN) {
                    return false;
                }
            }
            return true;
        }

        /** How often a form with ... behind it is told. */
        private int turnsOf(int form) {
            int turns = Matches.ONE;
            for (int place = form; place < forms.after(form); place++) {
                int times = matches.timesOf(names.noteOf(forms.nameOf(place)));
                if (turns != Matches.ONE && times != Matches.ONE && times != turns) {
                    return UNEVEN;
                }
                turns = Math.max(turns, times);
            }
            return turns;
        }

        /** Goes no deeper than made forms may nest: a list that would is too much. */
        private void build(int form, int turn, int depth) {
            if (!forms.isList(form)) {
                buildPart(form, turn, depth);
                return;
            }
            int list = addList(depth);
            int end = forms.after(form);
            int next = 0;
            for (int part = form + 1; part < end && !tooMuch; part = next) {
                next = forms.after(part);
                if (forms.isRepeated(part, end)) {
                    next = forms.after(next);
                    buildTurns(part, depth + 1);
                } else {
                    build(part, turn, depth + 1);
                }
            }
            forms.endList(list);
        }

        private void buildTurns(int form, int depth) {
            int turns = turnsOf(form);
            for (int turn = 0; turn < turns && !tooMuch; turn++) {
                build(form, turn, depth);
            }
        }

        private void buildPart(int form, int turn, int depth) {
            int name = forms.nameOf(form);
            int variable = names.noteOf(name);
            if (!Names.canBeBound(name)) {
                add(forms.whatIs(form));
            } else if (variable >= 0) {
                copy(matches.formOf(variable, turn), depth);
            } else {
                add(Forms.ofName(aliasOf(name)));
            }
        }

        private int aliasOf(int name) {
            if (!names.isNoted(name)) {
                names.setNote(name, ALIASED - names.addName(name, home));
            }
            return ALIASED - names.noteOf(name);
        }

        private void copy(int form, int depth) {
            if (!forms.isList(form)) {
                add(forms.whatIs(form));
                return;
            }
            int list = addList(depth);
            for (int part = form + 1; part < forms.after(form) && !tooMuch; part = forms.after(part)) {
                copy(part, depth + 1);
            }
            forms.endList(list);
        }

        private int addList(int depth) {
            if (depth > NEST_LIMIT) {
                tooMuch = true;
            }
            return add(Forms.LIST);
        }

        private int add(int form) {
            if (tooMuch || forms.top - start >= MADE_LIMIT) {
                tooMuch = true;
                return NONE;
            }
            return forms.add(form);
        }
    }

    /** The lists that are being expanded, each within the one before, and what to go back to behind them. */
    private static final class Frames {
        private static final int MOST = WITHIN_LIMIT + 1;

        private final int[] next = new int[MOST];
        private final int[] end = new int[MOST];
        private final boolean[] closes = new boolean[MOST];
        private final int[] formsBefore = new int[MOST];
        private final int[] namesBefore = new int[MOST];
        private final int[] scopesBefore = new int[MOST];
        private int top = 0;

        void enter(int from, int to, boolean withBracket) {
            if (top < MOST) {
                next[top] = from;
                end[top] = to;
                closes[top] = withBracket;
                top++;
            }
        }

        /** What the frame that is entered next goes back to. */
        void remember(int forms, int names, int scopes) {
            if (top < MOST) {
                formsBefore[top] = forms;
                namesBefore[top] = names;
                scopesBefore[top] = scopes;
            }
        }

        int nextForm(Forms forms) {
            int at = top - 1;
            if (at < 0 || next[at] >= end[at]) {
                return NONE;
            }
            int form = next[at];
            next[at] = forms.after(form);
            return form;
        }
    }

    /**
     * Expands a text and tells it at once, form by form. It goes into lists by frames, not by calls
     * of itself, since lists are expanded within up to 100 others.
     */
    private static final class Expander {
        private final Forms forms;
        private final Names names;
        private final Told told;
        private final Scopes scopes;
        private final RuleCheck ruleCheck;
        private final Matcher matcher;
        private final Maker maker;
        private final Frames frames = new Frames();
        private int nextTop = 0;
        private int defined = NONE;
        private int fault = 0;
        private int place = NONE;
        private int uses = 0;
        private int layers = 0;
        private int variables = 0;

        Expander(Forms forms, Names names, Told told) {
            Matches matches = new Matches();
            this.forms = forms;
            this.names = names;
            this.told = told;
            this.scopes = new Scopes(names);
            this.ruleCheck = new RuleCheck(forms, names, scopes);
            this.matcher = new Matcher(forms, names, scopes, matches);
            this.maker = new Maker(forms, names, matches);
        }

        /** Tells the forms of a text that has been read; answers the fault. */
        int tellText() {
            startText();
            int end = forms.top;
            for (int step = 0; step < STEP_LIMIT && fault == 0 && (frames.top > 0 || nextTop < end); step++) {
                int form = frames.top > 0 ? nextInFrame() : nextTopForm();
                if (form == NONE) {
                    continue;
                }
                int meaning = headMeaning(form);
                if (!forms.isList(form)) {
                    expandAlone(form);
                } else if (!canExpand(form)) {
                    break;
                } else if (Scopes.isMacro(meaning)) {
                    expandUse(form, meaning);
                } else if (Scopes.isWord(meaning)) {
                    expandWord(form, meaning >> 2);
                } else {
                    expandPlain(form);
                }
            }
            scopes.leaveTo(0);
            return fault == 0 && told.length > TOLD_LIMIT ? FAULT_TOO_MUCH : fault;
        }

        private void startText() {
            nextTop = KEPT_LIMIT;
            frames.top = 0;
            defined = NONE;
            fault = 0;
            place = NONE;
            uses = 0;
            layers = 0;
            variables = 0;
        }

        /** The next form to expand, or NONE behind the last one of a list, which is left then. */
        private int nextInFrame() {
            int form = frames.nextForm(forms);
            if (form == NONE) {
                leaveFrame();
            }
            return form;
        }

        private void leaveFrame() {
            int left = frames.top - 1;
            if (left < 0) {
                return;
            }
            frames.top = left;
            if (frames.closes[left]) {
                told.close();
            }
            scopes.leaveTo(frames.scopesBefore[left]);
            names.top = frames.namesBefore[left];
            forms.top = frames.formsBefore[left];
            if (left == 0 && defined != NONE) {
                names.setRules(defined, NONE);
                defined = NONE;
            }
        }

        /** The next top form, or NONE when it is not one to expand as a whole. */
        private int nextTopForm() {
            int form = nextTop;
            nextTop = forms.after(form);
            place++;
            remember();
            switch (forms.head(form)) {
                case DEFINE:
                    define(form);
                    return NONE;
                case DEFINE_SYNTAX:
                    defineSyntax(form);
                    return NONE;
                default:
                    return form;
            }
        }

        private void remember() {
            frames.remember(forms.top, names.top, scopes.top);
        }

        private boolean definesSymbol(int form) {
            int symbol = forms.nameOf(forms.part(form, 1));
            return forms.parts(form) == 3 && symbol > ANY;
        }

        private void define(int form) {
            if (!definesSymbol(form)) {
                fault = FAULT_UNFIT;
                return;
            }
            defined = forms.nameOf(forms.part(form, 1));
            told.open();
            told.addSymbol(names, DEFINE);
            told.addSymbol(names, defined);
            frames.enter(forms.part(form, 2), forms.after(form), true);
        }

        private void defineSyntax(int form) {
            int rules = forms.part(form, 2);
            if (!definesSymbol(form) || !ruleCheck.fits(rules, 0)) {
                fault = FAULT_UNFIT;
                return;
            }
            int kept = forms.keep(rules);
            if (kept == NONE) {
                fault = FAULT_TOO_MUCH;
                return;
            }
            names.setRules(forms.nameOf(forms.part(form, 1)), kept);
        }

        private void expandAlone(int form) {
            int name = forms.nameOf(form);
            int meaning = name == NONE ? NONE : scopes.meaning(name, scopes.top);
            if (name == NONE) {
                told.addNumber(forms.numberOf(form));
            } else if (Scopes.isWord(meaning) || Scopes.isMacro(meaning)) {
                fault = FAULT_WORD_ALONE;
            } else if ((meaning & 3) == MEANS_VARIABLE) {
                told.addVariable(meaning >> 2);
            } else {
                told.addSymbol(names, names.root(name));
            }
        }

        /** What the name means that a list begins with. */
        private int headMeaning(int form) {
            int head = forms.head(form);
            return head == NONE ? NONE : scopes.meaning(head, scopes.top);
        }

        /** What each list is looked at for, whatever it begins with. */
        private boolean canExpand(int list) {
            if (frames.top > WITHIN_LIMIT) {
                fault = FAULT_TOO_MUCH;
            } else if (forms.size(list) == 1) {
                fault = FAULT_UNFIT;
            }
            remember();
            return fault == 0;
        }

        private void expandPlain(int form) {
            told.open();
            frames.enter(form + 1, forms.after(form), true);
        }

        private void expandUse(int form, int macro) {
            if (uses >= USE_LIMIT) {
                fault = FAULT_TOO_MUCH;
                return;
            }
            uses++;
            int home = scopes.homeOf(macro);
            int rule = matcher.ruleFor(form, scopes.rulesOf(macro), home);
            if (rule == NONE) {
                fault = FAULT_NO_RULE;
                return;
            }
            int made = forms.top;
            fault = maker.make(forms.part(rule, 1), home);
            if (fault == 0) {
                frames.enter(made, forms.top, false);
            }
        }

        private void expandWord(int form, int word) {
            switch (word) {
                case LAMBDA:
                    expandLambda(form);
                    break;
                case LET_SYNTAX:
                    expandLetSyntax(form);
                    break;
                case IF:
                    expandIf(form);
                    break;
                case QUOTE:
                    expandQuote(form);
                    break;
                default:
                    fault = FAULT_UNFIT;
                    break;
            }
        }

        private void expandIf(int form) {
            if (forms.parts(form) != 4) {
                fault = FAULT_UNFIT;
                return;
            }
            told.open();
            told.addSymbol(names, IF);
            frames.enter(forms.part(form, 1), forms.after(form), true);
        }

        private void expandQuote(int form) {
            if (forms.parts(form) != 2) {
                fault = FAULT_UNFIT;
                return;
            }
            told.open();
            told.addSymbol(names, QUOTE);
            tellRoots(forms.part(form, 1));
            told.close();
        }

        /** Forms nest no deeper than texts and made forms may. */
        private void tellRoots(int form) {
            if (forms.nameOf(form) != NONE) {
                told.addSymbol(names, names.root(forms.nameOf(form)));
                return;
            }
            if (!forms.isList(form)) {
                told.addNumber(forms.numberOf(form));
                return;
            }
            told.open();
            for (int part = form + 1; part < forms.after(form); part = forms.after(part)) {
                tellRoots(part);
            }
            told.close();
        }

        /** Counts a lambda or let-syntax; whether it has a list of few enough forms to bind, and one form behind. */
        private boolean startLayer(int form) {
            if (layers >= LAYER_LIMIT) {
                fault = FAULT_TOO_MUCH;
                return false;
            }
            layers++;
            int bound = forms.part(form, 1);
            if (forms.parts(form) != 3 || !forms.isList(bound) || forms.parts(bound) > BOUND_LIMIT) {
                fault = FAULT_UNFIT;
            }
            return fault == 0;
        }

        private boolean canBind(int name, int before) {
            if (!Names.canBeBound(name) || scopes.isBoundSince(before, name)) {
                fault = FAULT_UNFIT;
            }
            return fault == 0;
        }

        private void expandLambda(int form) {
            if (!startLayer(form)) {
                return;
            }
            told.open();
            told.addSymbol(names, LAMBDA);
            told.open();
            int bound = forms.part(form, 1);
            bindVariables(bound);
            told.close();
            frames.enter(forms.after(bound), forms.after(form), true);
        }

        private void bindVariables(int bound) {
            int before = scopes.top;
            for (int part = bound + 1; part < forms.after(bound) && fault == 0; part = forms.after(part)) {
                int name = forms.nameOf(part);
                if (canBind(name, before)) {
                    told.addVariable(variables);
                    scopes.bindVariable(name, variables);
                    variables++;
                }
            }
        }

        private void expandLetSyntax(int form) {
            if (!startLayer(form)) {
                return;
            }
            int bound = forms.part(form, 1);
            int home = scopes.top + forms.parts(bound);
            if (home == scopes.top) {
                fault = FAULT_UNFIT;
            }
            bindMacros(bound, home);
            // Rules are looked at when all names are bound: one of these may hide syntax-rules.
            for (int part = bound + 1; part < forms.after(bound) && fault == 0; part = forms.after(part)) {
                if (!ruleCheck.fits(forms.part(part, 1), home)) {
                    fault = FAULT_UNFIT;
                }
            }
            frames.enter(forms.after(bound), forms.after(form), false);
        }

        private void bindMacros(int bound, int home) {
            int before = scopes.top;
            for (int part = bound + 1; part < forms.after(bound) && fault == 0; part = forms.after(part)) {
                int name = forms.nameOf(part + 1);
                if (forms.parts(part) != 2) {
                    fault = FAULT_UNFIT;
                } else if (canBind(name, before)) {
                    scopes.bindMacro(name, forms.part(part, 1), home);
                }
            }
        }
    }

    /** What was told latest, and what a text tells, of which that beyond the limit is only counted. */
    private static final class Told {
        private char[] taken = new char[TOLD_LIMIT];
        private int takenLength = 0;
        private char[] text = new char[TOLD_LIMIT];
        private int length = 0;
        private char last = ' ';

        void startText() {
            length = 0;
        }

        void take() {
            char[] older = taken;
            taken = text;
            takenLength = length;
            text = older;
        }

        private void add(char c) {
            if (length < text.length) {
                text[length] = c;
            }
            length++;
            last = c;
        }

        private void addBlank() {
            if (length > 0 && last != '(') {
                add(' ');
            }
        }

        void open() {
            addBlank();
            add('(');
        }

        void close() {
            add(')');
        }

        void addNumber(int value) {
            addBlank();
            addDigits(value);
        }

        void addVariable(int number) {
            addBlank();
            add('%');
            addDigits(number);
        }

        private void addDigits(int value) {
            int unit = 1;
            for (int i = 0; i < 9 && value / unit >= 10; i++) {
                unit *= 10;
            }
            for (; unit > 0; unit /= 10) {
                add((char) ('0' + value / unit % 10));
            }
        }

        void addSymbol(Names names, int symbol) {
            addBlank();
            if (symbol >= 0 && symbol < SYMBOL_LIMIT) {
                addHalf(names.firstHalf[symbol]);
                addHalf(names.secondHalf[symbol]);
            }
        }

        private void addHalf(long half) {
            for (int shift = 56; shift >= 0; shift -= 8) {
                char c = (char) (half >>> shift & 255);
                if (c != 0) {
                    add(c);
                }
            }
        }

        int at(int k) {
            return k >= 0 && k < takenLength && k < taken.length ? taken[k] : NONE;
        }

        /** Whether the brackets of what was told are such as a typed text may have: nothing else is looked at. */
        boolean canBeRead() {
            int opened = 0;
            for (int i = 0; i < takenLength && i < taken.length; i++) {
                if (taken[i] == '(') {
                    opened++;
                } else if (taken[i] == ')') {
                    opened--;
                }
                if (opened < 0 || opened > NEST_LIMIT + 1) {
                    return false;
                }
            }
            return opened == 0;
        }
    }
}
