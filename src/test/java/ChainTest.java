/** Promise 10: chain, and what objections are. */
public final class ChainTest {
    public static void main(String[] args) {
        whatIsAsked();
        longChain();
        ring();
        weightsThatWrap();
        asItIsNow();
        latestTrial();
        Checks.finish();
    }

    private static void whatIsAsked() {
        AppealCourt x = Checks.court("hearing h() { hold X = Late(3, 4); hold Y = Proof(5) because X; raise Y; }");
        x.trial(0, 0, 0, 9);
        Checks.inChain("itself", x, 0, 6, 5, 0, 2, 44, 1, 18);
        Checks.inChain("its CAUSE", x, 1, 2, 3, 4, 1, 23, 0, 17);
        Checks.nothingInChain("none such", x, 2);
        for (int i : new int[] {-1, 49, 50, Checks.MIN, Checks.MAX}) {
            Checks.nothingInChain("i " + i, x, i);
        }
        for (int what : new int[] {-1, 7, 8, Checks.MIN, Checks.MAX}) {
            Checks.due("what " + what, x.chain(0, what), 0);
            Checks.due("what " + what + " of none", x.chain(5, what), 0);
        }
    }

    private static void longChain() {
        AppealCourt x = Checks.court("hearing h(n) { while n { hold X = Any(n) because X; n = n - 1; } raise X; }");
        x.trial(0, 60, 0, 999);
        Checks.due("the first", x.chain(0, 3), 60);
        Checks.due("the 50th", x.chain(49, 3), 11);
        Checks.due("the 50th's GROUND", x.chain(49, 1), 50);
        Checks.nothingInChain("50 at most", x, 50);
        x.trial(0, 50, 0, 999);
        Checks.due("the last of 50", x.chain(49, 1), 50);
        x.trial(0, 49, 0, 999);
        Checks.due("the last of 49", x.chain(48, 1), 49);
        Checks.nothingInChain("behind the last of 49", x, 49);
    }

    private static void ring() {
        AppealCourt x = Checks.court("hearing h() { hold X = Any(1); hold Y = Merit(2) because X; join X to Y; raise X; }");
        x.trial(0, 0, 0, 9);
        Checks.inChain("the first", x, 0, 0, 1, 0, 1, 23, 1, 1);
        Checks.inChain("the 50th", x, 49, 4, 2, 0, 2, 40, 1, 6);
        Checks.nothingInChain("50 at most", x, 50);
    }

    private static void weightsThatWrap() {
        String[] kinds = {"Any", "Form", "Late", "Party", "Merit", "Bias", "Proof"};
        int[] grounds = {0, 1, -1, 10, -10, Checks.MAX, Checks.MIN, Checks.MAX - 9, 715827883, -715827883};
        for (int kind = 0; kind < 7; kind++) {
            AppealCourt x = Checks.court("hearing h(a, b) { hold Y = Any(b); hold X = " + kinds[kind] + "(a" + (kind == 2 ? ", b" : "") + ") because Y; raise X; }");
            for (int g : grounds) {
                for (int b : new int[] {0, 7, Checks.MAX}) {
                    int[] want = {g, g + 10, g + 10 + b, 2 * (g + 10), 3 * g, 3 * g - 5, 3 * g + b};
                    x.trial(0, g, b, 9);
                    Checks.due("KIND", x.chain(0, 0), kind);
                    Checks.due("GROUND", x.chain(0, 1), g);
                    Checks.due("DAYS", x.chain(0, 2), kind == 2 ? b : 0);
                    Checks.due("WEIGHT of " + kinds[kind] + " " + g + ", " + b, x.chain(0, 6), want[kind]);
                }
            }
        }
    }

    private static void asItIsNow() {
        AppealCourt x = Checks.court("hearing h(a) { hold X = Proof(a); raise X; }");
        x.complain(1, 6, 2);
        x.policy(0, 0, 0, 0);
        x.policy(1, 0, 4, 0);
        x.policy(2, 0, 1, 0);
        x.trial(0, 5, 0, 9);
        Checks.inChain("the COMPLAINT", x, 0, 6, 2, 0, 1, -1, 1, 11);
        Checks.inChain("what it was joined to", x, 1, 6, 5, 0, 2, 24, 0, 15);
        x.complain(1, 0, 77);
        Checks.inChain("another COMPLAINT is no matter", x, 0, 6, 2, 0, 1, -1, 1, 11);
    }

    private static void latestTrial() {
        AppealCourt x = Checks.court("hearing h(a) { if a == 1 { hold X = Any(8); raise X; } if a == 2 { while 1 {} } }");
        x.trial(0, 1, 0, 9);
        Checks.due("UPHELD", x.chain(0, 1), 8);
        x.trial(3, 0, 0, 9);
        Checks.due("NONE changes nothing", x.chain(0, 1), 8);
        x.trial(0, 0, 0, 9);
        Checks.nothingInChain("RESTED", x, 0);
        x.trial(0, 1, 0, 9);
        x.trial(0, 2, 0, 9);
        Checks.nothingInChain("ADJOURNED", x, 0);
    }
}
