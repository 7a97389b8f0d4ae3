/** Promise 4: fault tells of the latest read that was not NONE. */
public final class FaultTest {
    public static void main(String[] args) {
        AppealCourt x = new AppealCourt();
        tell(x, "ahead of any", -1, -1);
        x.read(-1);
        x.read(1);
        tell(x, "behind NONE alone", -1, -1);
        Checks.read(x, "hearing h() { note y; }");
        tell(x, "FAULT 2", 2, 19);
        Checks.feed(x, "hearing g() {}");
        x.read(21);
        tell(x, "NONE changes nothing", 2, 19);
        x.read(14);
        tell(x, "no fault", 0, -1);
        x.read(-7);
        tell(x, "NONE behind no fault", 0, -1);
        Checks.read(x, "!");
        tell(x, "FAULT 1 at the beginning", 1, 0);
        Checks.read(x, "hearing h(a, b, c, d, e) {}");
        tell(x, "FAULT 3", 3, 22);
        Checks.read(x, "hearing h() { hear g(); }");
        tell(x, "FAULT 4", 4, 19);
        x.trial(0, 0, 0, 10);
        tell(x, "a trial changes nothing", 4, 19);
        Checks.finish();
    }

    private static void tell(AppealCourt x, String when, int fault, int place) {
        Checks.due(when + ": fault(0)", x.fault(0), fault);
        Checks.due(when + ": fault(1)", x.fault(1), place);
        for (int what : new int[] {-1, 2, 3, Checks.MIN, Checks.MAX}) {
            Checks.due(when + ": fault(" + what + ")", x.fault(what), -1);
        }
    }
}
