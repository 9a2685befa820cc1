/** Promise 1: nothing is defined in a new object, and nothing of one object is another's. */
final class NewObjectTest {
    public static void main(String[] args) {
        MacroScopes x = new MacroScopes();
        Session.due("NONE", MacroScopes.NONE, -1);
        for (int what = 0; what <= 5; what++) {
            Session.due("count(" + what + ") of a new object", x.count(what), 0);
        }
        Session.due("place() of a new object", x.place(), -1);
        Session.due("character(0) of a new object", x.character(0), -1);
        Session.due("check() of a new object", x.check(), 1);
        Session.due("means() of a new object", x.means(), -1);

        Session one = new Session();
        one.tells("(define-syntax m (syntax-rules () ((_) 1)))", "");
        Session.due("m in its object", one.means("m"), 2);
        Session other = new Session();
        Session.due("m in another object", other.means("m"), 0);
        other.tells("(m)", "(m)");
        other.counts(3, 0, 0, 1, 0, 0);
        Session.end();
    }
}
