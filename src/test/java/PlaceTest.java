/** Promise 4: the top form that had the fault of the latest read(). */
final class PlaceTest {
    public static void main(String[] args) {
        Session s = new Session();
        MacroScopes x = s.object();
        Session.due("place before any read", x.place(), -1);
        s.faults("1 2 (f if)", 4, 2);
        Session.due("place is asked again", x.place(), 2);
        s.type("(");
        Session.due("place after type", x.place(), 2);
        Session.due("means", x.means(), -1);
        Session.due("place after means", x.place(), 2);
        Session.due("check", x.check(), 1);
        Session.due("place after check", x.place(), 2);
        s.faults(") 1", 1, -1).faults("()", 3, 0).tells("1", "1");
        s.faults("(define-syntax m (syntax-rules () ((_) 1))) 1 (define if 1)", 3, 2);
        s.faults("1 (lambda (x) (lambda (x x) 1)) 2", 3, 1);
        s.tells("", "");
        Session.end();
    }
}
