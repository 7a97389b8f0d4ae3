/** Promise 8: about. */
public final class AboutTest {
    public static void main(String[] args) {
        AppealCourt x = Checks.court("hearing h(a) { note 1; if a == 1 { hold X = Form(1); raise X; } if a == 2 { hear h(0); } if a == 3 { while 1 {} }"
                + " if a == 4 { hold X = Any(1); try { join X to X; } uphold Any { rest 5; } } rest 7; } hearing g() {}");
        tell(x, "ahead of any", -1, 0, -1, 0, 0, 0, 0, 0, 0, 2);
        x.complain(0, 0, 0);
        tell(x, "a COMPLAINT", -1, 0, -1, 0, 0, 0, 0, 1, 0, 2);
        x.trial(0, 0, 0, 99);
        tell(x, "RESTED", 0, 7, -1, 6, 1, 0, 1, 1, 0, 2);
        x.trial(0, 1, 0, 99);
        tell(x, "UPHELD", 2, 0, -1, 4, 1, 0, 1, 2, 0, 2);
        x.policy(1, 1, 1, 0);
        x.policy(0, 1, 3, 0);
        x.trial(0, 1, 0, 99);
        tell(x, "STRUCK", 1, 0, 1, 8, 2, 1, 2, 4, 0, 2);
        x.trial(0, 2, 0, 99);
        tell(x, "with another hearing", 0, 7, -1, 13, 2, 0, 2, 4, 0, 2);
        x.trial(0, 3, 0, 99);
        tell(x, "ADJOURNED", 3, 0, -1, 99, 1, 0, 1, 4, 0, 2);
        x.trial(0, 4, 0, 99);
        tell(x, "REFUSED", 0, 5, -1, 9, 1, 0, 1, 6, 1, 2);
        x.trial(5, 0, 0, 99);
        tell(x, "NONE changes nothing", 0, 5, -1, 9, 1, 0, 1, 6, 1, 2);
        x.trial(1, 0, 0, 99);
        tell(x, "an empty hearing", 0, 0, -1, 0, 0, 0, 1, 6, 1, 2);
        Checks.finish();
    }

    private static void tell(AppealCourt x, String when, int... want) {
        for (int what = 0; what < want.length; what++) {
            Checks.due(when + ": about(" + what + ")", x.about(what), want[what]);
        }
        for (int what : new int[] {-1, 10, 11, Checks.MIN, Checks.MAX}) {
            Checks.due(when + ": about(" + what + ")", x.about(what), -1);
        }
    }
}
