/** Promise 1: a new object has no text, no policies, no complaints, and nothing was made. */
public final class NewObjectTest {
    public static void main(String[] args) {
        Checks.due("NONE", AppealCourt.NONE, -1);
        AppealCourt x = new AppealCourt();
        Checks.due("no hearing to try", x.trial(0, 0, 0, 1), -1);
        int[] about = {-1, 0, -1, 0, 0, 0, 0, 0, 0, 0};
        for (int what = 0; what < about.length; what++) {
            Checks.due("about(" + what + ")", x.about(what), about[what]);
        }
        Checks.due("fault(0)", x.fault(0), -1);
        Checks.due("fault(1)", x.fault(1), -1);
        Checks.due("note(0)", x.note(0), 0);
        Checks.nothingInChain("new", x, 0);
        for (int instance = 0; instance < 3; instance++) {
            Checks.due("complaint KIND", x.complaint(instance, 0, 0), -1);
            Checks.due("complaint SERIAL", x.complaint(instance, 0, 3), 0);
        }
        Checks.due("nothing fed", x.read(1), -1);
        noPolicies();
        twoCourts();
        Checks.finish();
    }

    private static void noPolicies() {
        String[] kinds = {"Any", "Form", "Late", "Party", "Merit", "Bias", "Proof"};
        for (int kind = 0; kind < kinds.length; kind++) {
            AppealCourt x = Checks.court("hearing h() { hold X = " + kinds[kind] + "(3); raise X; }");
            Checks.due("all pass", x.trial(0, 0, 0, 9), 2);
            Checks.due("KIND upheld", x.chain(0, 0), kind);
        }
    }

    private static void twoCourts() {
        AppealCourt one = Checks.court("hearing h() { note 4; }");
        AppealCourt other = new AppealCourt();
        one.trial(0, 0, 0, 9);
        one.complain(0, 1, 2);
        one.policy(0, 0, 1, 0);
        Checks.due("the other's hearings", other.about(9), 0);
        Checks.due("the other's objections", other.about(7), 0);
        Checks.due("the other's first SERIAL", other.complain(2, 0, 0), 1);
    }
}
