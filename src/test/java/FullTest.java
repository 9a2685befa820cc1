/** Promise 3 where several limits are met at once: what is fine to the last is also told right to the last. */
final class FullTest {
    public static void main(String[] args) {
        usesThatMakeMuch();
        usesThatMakeManyAliases();
        rulesOfLateAliases();
        aliasesBoundAllTheWay();
        listWithinHundred();
        sixHundredBindings();
        manyRulesThatFail();
        manyPlacesForRepeated();
        wideUse();
        Session.end();
    }

    private static String names(int n) {
        StringBuilder names = new StringBuilder();
        for (int i = 0; i < n; i++) {
            names.append(i == 0 ? "" : " ").append((char) ('a' + i / 26)).append((char) ('A' + i % 26));
        }
        return names.toString();
    }

    private static void usesThatMakeMuch() {
        Session.sentence("100 uses, one within the other, of which the first makes a size of 600");
        String d = "(define-syntax d(syntax-rules()((_ (z ...)) (quote (z ...))) ((_ (z ...) x y ...) (d (z ...) y ...))))";
        Session s = new Session();
        s.tells(d, "");
        s.tells("(d(" + Session.row("1", 499) + ")" + " 1".repeat(99) + ")", "(quote (" + Session.row("1", 499) + "))");
        s.counts(1007, 100);
        s = new Session();
        s.tells(d, "").faults("(d(" + Session.row("1", 500) + ")" + " 1".repeat(99) + ")", 2);
        s = new Session();
        s.tells(d, "").faults("(d(" + Session.row("1", 490) + ")" + " 1".repeat(100) + ")", 2);
    }

    private static void usesThatMakeManyAliases() {
        Session.sentence("each other name replaced by an alias that stands for it, made anew in this use");
        String names = names(499);
        Session s = new Session();
        s.tells("(define-syntax d(syntax-rules()((_ z) (quote z)) ((_ z x y ...) (d (" + names + ") y ...))))", "");
        s.tells("(d 0" + " 1".repeat(99) + ")", "(quote (" + names + "))").counts(1506, 100);
        s = new Session();
        s.tells("(define-syntax d(syntax-rules()((_ (a b z ...)) (lambda (a b) (f b a))) ((_ z x y ...) (d (" + names
            + ") y ...))))", "");
        // Within 99 uses and the lambda the last list is within 100 others.
        s.tells("(d 0" + " 1".repeat(98) + ")", "(lambda (%0 %1) (f %1 %0))").counts(26, 99, 2);
        s.tells("(d 0" + " 1".repeat(98) + ")", "(lambda (%0 %1) (f %1 %0))").counts(26, 99, 2);
        s.faults("(d 0" + " 1".repeat(99) + ")", 2);
    }

    private static void rulesOfLateAliases() {
        Session.sentence("for the same name the same one");
        Session s = new Session();
        s.tells("(define-syntax d(syntax-rules()((_ (a b c z ...)) (let-syntax ((k (syntax-rules (c) ((_ c a) (lambda (b)"
            + " (quote (a b c))))))) (k c 5))) ((_ z x y ...) (d (" + names(490) + ") y ...))))", "");
        s.tells("(d 0" + " 1".repeat(96) + ")", "(lambda (%0) (quote (5 aB aC)))").counts(31, 98, 1);
    }

    private static void aliasesBoundAllTheWay() {
        Session.sentence("what the innermost that binds it binds it to");
        Session s = new Session();
        s.tells("(define-syntax d(syntax-rules()((_ z (t ...)) (t ... u)) ((_ z (t ...) x y ...) (lambda (u) (d ("
            + names(450) + ") (u t ...) y ...)))))", "");
        int lambdas = 48;
        StringBuilder told = new StringBuilder();
        for (int i = 0; i < lambdas; i++) {
            told.append("(lambda (%").append(i).append(") ");
        }
        told.append("(");
        for (int i = lambdas - 1; i >= 0; i--) {
            told.append("%").append(i).append(" ");
        }
        told.append("u)").append(")".repeat(lambdas));
        s.tells("(d 0 ()" + " 1".repeat(lambdas) + ")", told.toString()).counts(told.length(), lambdas + 1, lambdas);
        s.tells("(f (d 0 ()" + " 1".repeat(lambdas) + "))", "(f " + told + ")");
    }

    private static final String LAMBDA = "(lambda(a b c d e f)";

    /** A session with a macro that puts so many lambdas around a list. */
    private static Session aroundList(int lambdas) {
        Session s = new Session();
        return s.tells("(define-syntax m(syntax-rules()((_ x ...)" + LAMBDA.repeat(lambdas - 1) + "(lambda(a b c d e g)(x ... a g)"
            + ")".repeat(lambdas) + ")))", "");
    }

    /** So many lambdas, one within the other, up to the innermost's form. */
    private static StringBuilder toldLambdas(int lambdas) {
        StringBuilder told = new StringBuilder();
        for (int variable = 0; variable < 6 * lambdas; variable++) {
            told.append(variable % 6 == 0 ? "(lambda (%" : " %").append(variable).append(variable % 6 == 5 ? ") " : "");
        }
        return told;
    }

    private static void listWithinHundred() {
        Session.sentence("lambdas of 6 names, one within the other, and at last a list within 100 others");
        // The names that are given stand for the variables of the innermost lambda around the use.
        String told = toldLambdas(99) + "(%353 %348 %588 %593)" + ")".repeat(99);
        String before = LAMBDA.repeat(59) + "(m f ";
        String behind = ")".repeat(60);
        aroundList(40).tells(before + "a" + behind, told).counts(told.length(), 1, 594, 1);
        aroundList(40).faults(before + "()" + behind, 2).faults(before + "if" + behind, 4);
        aroundList(39).faults(before + "()" + behind, 3);
        aroundList(41).faults(before + "a" + behind, 2);
    }

    private static void sixHundredBindings() {
        Session.sentence("lambdas of 6 names, one within the other, the last within 100 lists");
        String told = toldLambdas(100) + "%599" + ")".repeat(100);
        Session s = new Session();
        s.tells("(define-syntax m(syntax-rules()((_)" + LAMBDA.repeat(40) + "f" + ")".repeat(40) + ")))", "");
        s.tells(LAMBDA.repeat(60) + "(m)" + ")".repeat(60), told).counts(told.length(), 1, 600, 1);
        s = new Session();
        s.tells("(define-syntax m(syntax-rules()((_)" + LAMBDA.repeat(41) + "f" + ")".repeat(41) + ")))", "");
        s.faults(LAMBDA.repeat(60) + "(m)" + ")".repeat(60), 2);
    }

    private static void manyRulesThatFail() {
        Session.sentence("The first rule that matches");
        String variables = names(34);
        StringBuilder rules = new StringBuilder();
        for (int i = 1; i <= 8; i++) {
            rules.append("((_ ").append(variables).append(" ").append(i).append(") (quote (aA bH ").append(i).append(")))");
        }
        Session s = new Session();
        s.tells("(define-syntax m(syntax-rules()" + rules + "))", "");
        String row = "7 1 1 1 1 1 1 1 1 1 1 1 1 1 1 1 1 1 1 1 1 1 1 1 1 1 1 1 1 1 1 1 1 9";
        s.tells(("(m " + row + " 8)").repeat(30), Session.row("(quote (7 9 8))", 30)).counts(479, 30);
        s.faults("(m " + row + " 9)", 5);
        s = new Session();
        s.tells("(define-syntax m(syntax-rules()((_ " + variables + ") (quote (aA bH)))))"
            + "(define-syntax k(syntax-rules()((_) (m " + row + "))))", "");
        s.tells("(k)".repeat(50), Session.row("(quote (7 9))", 50)).counts(699, 100);
        s.tells("(k)".repeat(50), Session.row("(quote (7 9))", 50)).counts(699, 100);
    }

    private static void manyPlacesForRepeated() {
        Session.sentence("a form with ... behind told as often as its repeated variables matched");
        Session s = new Session();
        s.tells("(define-syntax m(syntax-rules()((_ (a (b c)) ...) (quote ((a ...) (b ...) (c ...))))))", "");
        s.tells("(m" + "(1(2 3))".repeat(198) + ")", "(quote ((" + Session.row("1", 198) + ") (" + Session.row("2", 198) + ") ("
            + Session.row("3", 198) + ")))");
        s.faults("(m" + "(1(2 3))".repeat(199) + ")", 2);
    }

    private static void wideUse() {
        Session.sentence("a variable replaced by what it matched");
        Session s = new Session();
        s.tells("(define-syntax m(syntax-rules()((_ a b ... ) (a)) ((_) 1)))", "");
        s.tells("(m 7" + " 1".repeat(1490) + ")", "(7)").tells("(m 8)", "(8)");
        s = new Session();
        StringBuilder many = new StringBuilder();
        for (int i = 0; i < 590; i++) {
            many.append(" ").append(i);
        }
        s.tells("(define-syntax m(syntax-rules()((_ a ...) (quote (a ...)))))", "");
        s.tells("(m" + many + ")", "(quote (" + many.substring(1) + "))");
    }
}
