/** Promise 11: complaint. */
public final class ComplaintTest {
    public static void main(String[] args) {
        AppealCourt x = Checks.court("hearing h(a) { hold Y = Merit(a); hold X = Late(a, 3) because Y; raise X; }");
        tell(x, 0, 0, -1, 0, 0, 0, 0, 0, 0);
        x.complain(0, 3, 4);
        x.complain(2, 6, 5);
        tell(x, 0, 0, 3, 4, 0, 1, -1, 0, 28);
        tell(x, 1, 0, -1, 0, 0, 0, 0, 0, 0);
        tell(x, 2, 0, 6, 5, 0, 2, -1, 0, 15);
        tell(x, 2, 1, -1, 0, 0, 0, 0, 0, 0);
        x.policy(2, 1, 4, 0);
        x.trial(0, 9, 0, 9);
        tell(x, 2, 0, 6, 5, 0, 2, -1, 1, 24);
        tell(x, 2, 1, 2, 9, 3, 4, 43, 1, 22);
        tell(x, 2, 2, 4, 9, 0, 3, 24, 0, 27);
        tell(x, 2, 3, -1, 0, 0, 0, 0, 0, 0);
        tell(x, 0, 0, 3, 4, 0, 1, -1, 0, 28);
        for (int instance : new int[] {-1, 3, Checks.MIN, Checks.MAX}) {
            tell(x, instance, 0, -1, 0, 0, 0, 0, 0, 0);
        }
        for (int i : new int[] {-1, 49, 50, Checks.MIN, Checks.MAX}) {
            tell(x, 2, i, -1, 0, 0, 0, 0, 0, 0);
        }
        for (int what : new int[] {-1, 7, Checks.MIN, Checks.MAX}) {
            Checks.due("what " + what, x.complaint(2, 0, what), 0);
            Checks.due("what " + what + " of none", x.complaint(1, 0, what), 0);
        }
        x.complain(2, 1, 6);
        tell(x, 2, 0, 1, 6, 0, 5, -1, 0, 16);
        tell(x, 2, 1, -1, 0, 0, 0, 0, 0, 0);
        Checks.finish();
    }

    private static void tell(AppealCourt x, int instance, int i, int... want) {
        for (int what = 0; what < want.length; what++) {
            Checks.due("complaint(" + instance + ", " + i + ", " + what + ")", x.complaint(instance, i, what), want[what]);
        }
    }
}
