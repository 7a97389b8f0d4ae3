/** Promise 6: complain. */
public final class ComplainTest {
    public static void main(String[] args) {
        AppealCourt x = new AppealCourt();
        for (int bad : new int[] {-1, 3, Checks.MIN, Checks.MAX}) {
            Checks.due("instance " + bad, x.complain(bad, 0, 0), -1);
        }
        for (int bad : new int[] {-1, 7, Checks.MIN, Checks.MAX}) {
            Checks.due("KIND " + bad, x.complain(0, bad, 0), -1);
        }
        Checks.due("nothing was made", x.about(7), 0);
        int serial = 0;
        for (int instance = 0; instance < 3; instance++) {
            for (int kind = 0; kind < 7; kind++) {
                serial++;
                Checks.due("SERIAL", x.complain(instance, kind, 10 * kind + instance), serial);
                int[] want = {kind, 10 * kind + instance, 0, serial, -1, 0};
                for (int what = 0; what < want.length; what++) {
                    Checks.due("complaint " + what, x.complaint(instance, 0, what), want[what]);
                }
            }
        }
        Checks.due("made", x.about(7), 21);
        Checks.due("COUNTY's is the latest", x.complaint(0, 0, 3), 7);
        eightThousand();
        Checks.finish();
    }

    private static void eightThousand() {
        AppealCourt x = Checks.court("hearing h(a) { while 0 < a { hold X = Late(a, 2); a = a - 1; } raise X; }");
        for (int i = 0; i < 79; i++) {
            Checks.due("a hundred more", x.trial(0, 100, 0, 999), 2);
        }
        Checks.due("99 more", x.trial(0, 99, 0, 999), 2);
        Checks.due("made", x.about(7), 7999);
        Checks.inChain("7,999th", x, 0, 2, 1, 2, 7999, 38, 0, 13);
        Checks.due("the 8,000th", x.complain(1, 5, 3), 8000);
        Checks.due("the 8,001st", x.complain(1, 6, 4), -1);
        Checks.due("the COMPLAINT stays", x.complaint(1, 0, 0), 5);
        Checks.due("its SERIAL", x.complaint(1, 0, 3), 8000);
        Checks.due("made", x.about(7), 8000);
        Checks.due("ADJOURNED", x.trial(0, 1, 0, 999), 3);
        Checks.due("STEPS", x.about(3), 2);
        Checks.due("also by what the court makes", x.trial(0, 0, 0, 999), 3);
        Checks.due("made", x.about(7), 8000);
        Checks.read(x, "hearing h() { rest 3; }");
        Checks.due("without an objection", x.trial(0, 0, 0, 9), 0);
    }
}
