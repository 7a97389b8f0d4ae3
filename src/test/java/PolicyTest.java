/** Promise 5: policy, and IV. INSTANCES. */
public final class PolicyTest {
    private static final String[] KINDS = {"Any", "Form", "Late", "Party", "Merit", "Bias", "Proof"};
    private static final int[] ONE_OF = {-1, 0, 1, 1, 0, 4, 4};

    public static void main(String[] args) {
        answers();
        falseChangesNothing();
        forWhatItIsOneOf();
        strike();
        wrap();
        remand();
        remandsInOneAnother();
        enter();
        enterRefused();
        weigh();
        adjournedInAnInstance();
        Checks.finish();
    }

    /** Hearing h raises a LATE one with GROUND a and DAYS b. */
    private static AppealCourt raising() {
        return Checks.court("hearing h(a, b) { hold X = Late(a, b); raise X; }");
    }

    private static void answers() {
        for (int instance = 0; instance < 3; instance++) {
            AppealCourt x = new AppealCourt();
            for (int kind = 0; kind < 7; kind++) {
                for (int what = -1; what <= 5; what++) {
                    Checks.due("policy", x.policy(instance, kind, what, 6), true);
                    Checks.due("policy with 7", x.policy(instance, kind, what, 7), what != 2);
                    Checks.due("policy with -1", x.policy(instance, kind, what, -1), what != 2);
                    Checks.due("policy with the least", x.policy(instance, kind, what, Checks.MIN), what != 2);
                }
            }
        }
        AppealCourt x = new AppealCourt();
        Checks.due("WRAP 0", x.policy(0, 0, 2, 0), true);
        for (int bad : new int[] {-1, 3, Checks.MIN, Checks.MAX}) {
            Checks.due("instance " + bad, x.policy(bad, 0, 0, 0), false);
        }
        for (int bad : new int[] {-1, 7, Checks.MIN, Checks.MAX}) {
            Checks.due("KIND " + bad, x.policy(0, bad, 0, 0), false);
        }
        for (int bad : new int[] {-2, 6, Checks.MIN, Checks.MAX}) {
            Checks.due("what " + bad, x.policy(0, 0, bad, 0), false);
        }
    }

    private static void falseChangesNothing() {
        AppealCourt x = raising();
        x.policy(0, 2, 1, 0);
        x.policy(0, 2, 2, 7);
        x.policy(0, 2, 6, 0);
        x.policy(0, 2, -2, 0);
        x.policy(-1, 2, 0, 0);
        x.policy(3, 2, 0, 0);
        x.policy(0, 7, 0, 0);
        x.policy(0, -1, 0, 0);
        Checks.due("still STRUCK", x.trial(0, 1, 1, 9), 1);
        Checks.due("by COUNTY", x.about(2), 0);
        Checks.due("it has none", x.policy(0, 2, -1, 0), true);
        Checks.due("UPHELD", x.trial(0, 1, 1, 9), 2);
        Checks.due("none again", x.policy(0, 2, -1, 0), true);
    }

    private static boolean is(int kind, int other) {
        return kind == other || kind != -1 && is(ONE_OF[kind], other);
    }

    private static void forWhatItIsOneOf() {
        for (int raised = 0; raised < 7; raised++) {
            for (int told = 0; told < 7; told++) {
                AppealCourt x = Checks.court("hearing h() { hold X = " + KINDS[raised] + "(3); raise X; }");
                x.policy(1, told, 1, 0);
                Checks.due(raised + " by the policy for " + told, x.trial(0, 0, 0, 9), is(raised, told) ? 1 : 2);
                Checks.due("where", x.about(2), is(raised, told) ? 1 : -1);
                x.policy(1, raised, 0, 0);
                Checks.due("its own PASS counts", x.trial(0, 0, 0, 9), 2);
                x.policy(1, raised, -1, 0);
                x.policy(1, 0, 1, 0);
                Checks.due("at last that for ANY", x.trial(0, 0, 0, 9), 1);
            }
        }
        AppealCourt x = raising();
        x.policy(0, 0, 2, 5);
        x.policy(0, 1, 2, 6);
        x.trial(0, 1, 1, 9);
        Checks.due("the nearest counts", x.chain(0, 0), 6);
    }

    private static void strike() {
        for (int instance = 0; instance < 3; instance++) {
            AppealCourt x = raising();
            x.policy(instance, 1, 1, 0);
            Checks.due("STRUCK", x.trial(0, 4, 6, 9), 1);
            Checks.due("about(0)", x.about(0), 1);
            Checks.due("here", x.about(2), instance);
            Checks.inChain("STRUCK", x, 0, 2, 4, 6, 1, 27, 0, 20);
            Checks.nothingInChain("alone", x, 1);
        }
    }

    private static void wrap() {
        AppealCourt x = raising();
        x.policy(0, 2, 2, 4);
        x.policy(1, 4, 2, 2);
        x.policy(1, 2, 1, 0);
        x.policy(2, 0, 2, 6);
        Checks.due("UPHELD", x.trial(0, 4, 6, 9), 2);
        Checks.inChain("by SUPREME", x, 0, 6, 4, 0, 4, -1, 1, 16);
        Checks.inChain("by APPEAL, with no DAYS", x, 1, 2, 4, 0, 3, -1, 1, 14);
        Checks.inChain("by COUNTY", x, 2, 4, 4, 0, 2, -1, 1, 12);
        Checks.inChain("itself", x, 3, 2, 4, 6, 1, 27, 0, 20);
        Checks.nothingInChain("no more", x, 4);
        Checks.due("made", x.about(7), 4);
    }

    private static void remand() {
        AppealCourt x = Checks.court("hearing h(a) { note a; a = a + 1; note a; note X; hold X = Form(a); raise X; }");
        x.policy(0, 1, 3, 0);
        Checks.due("comes out again", x.trial(0, 5, 0, 99), 2);
        Checks.due("REMANDED", x.about(5), 1);
        Checks.due("hearings", x.about(6), 2);
        Checks.due("STEPS", x.about(3), 12);
        Checks.notes("from the beginning", x, 5, 6, 0, 5, 6, 0);
        Checks.due("the second one", x.chain(0, 3), 2);
        AppealCourt y = Checks.court("hearing h() { hold X = Form(1); if serial X == 1 { raise X; } hold X = Merit(1); raise X; }");
        y.policy(0, 0, 3, 0);
        Checks.due("another one goes on, too", y.trial(0, 0, 0, 99), 2);
        Checks.due("as it is", y.chain(0, 0), 4);
        Checks.due("REMANDED once", y.about(5), 1);
        AppealCourt z = Checks.court("hearing h() { hold X = Form(1); if serial X == 1 { raise X; } rest 6; }");
        z.policy(2, 0, 3, 0);
        Checks.due("RESTED the second time", z.trial(0, 0, 0, 99), 0);
        Checks.due("with", z.about(1), 6);
        Checks.due("REMANDED by SUPREME", z.about(5), 1);
        Checks.nothingInChain("RESTED", z, 0);
        Checks.due("not REMANDED", z.trial(0, 0, 0, 99), 0);
        Checks.due("0 times", z.about(5), 0);
    }

    private static void remandsInOneAnother() {
        AppealCourt x = Checks.court("hearing h() { note 1; hold X = Any(1); raise X; }");
        x.policy(0, 0, 3, 0);
        x.policy(1, 0, 3, 0);
        x.policy(2, 0, 3, 0);
        Checks.due("UPHELD", x.trial(0, 0, 0, 99), 2);
        Checks.due("REMANDED", x.about(5), 7);
        Checks.due("hearings", x.about(6), 8);
        Checks.due("STEPS", x.about(3), 24);
        Checks.due("the last one", x.chain(0, 3), 8);
        Checks.due("too few STEPS", x.trial(0, 0, 0, 23), 3);
        Checks.due("REMANDED before that", x.about(5), 7);
        x.policy(0, 0, 2, 4);
        Checks.due("COUNTY wraps each time", x.trial(0, 0, 0, 99), 2);
        Checks.due("hearings", x.about(6), 4);
        Checks.due("REMANDED", x.about(5), 3);
        Checks.due("wrapped", x.chain(0, 0), 4);
        AppealCourt y = Checks.court("hearing h() { hold X = Any(1); if serial X != 1 { hold X = Form(2); } raise X; }");
        y.policy(0, 1, 1, 0);
        y.policy(2, 0, 3, 0);
        Checks.due("STRUCK below, the second time", y.trial(0, 0, 0, 99), 1);
        Checks.due("by COUNTY", y.about(2), 0);
    }

    private static void enter() {
        AppealCourt x = raising();
        x.policy(1, 0, 4, 0);
        Checks.due("without a COMPLAINT", x.trial(0, 4, 6, 9), 2);
        Checks.due("it goes on itself", x.chain(0, 0), 2);
        Checks.due("not REFUSED", x.about(8), 0);
        x.complain(1, 5, 30);
        x.policy(2, 5, 1, 0);
        Checks.due("the COMPLAINT goes on", x.trial(0, 4, 6, 9), 1);
        Checks.inChain("the COMPLAINT", x, 0, 5, 30, 0, 2, -1, 1, 85);
        Checks.inChain("its CAUSE", x, 1, 2, 4, 6, 3, 27, 0, 20);
        Checks.due("complaint()", x.complaint(1, 1, 3), 3);
    }

    private static void enterRefused() {
        AppealCourt x = raising();
        x.policy(0, 0, 4, 0);
        x.complain(0, 1, 30);
        x.trial(0, 4, 6, 9);
        Checks.due("joined", x.about(8), 0);
        Checks.due("SETTLED", x.trial(0, 4, 6, 9), 2);
        Checks.due("it goes on itself", x.chain(0, 3), 3);
        Checks.due("REFUSED", x.about(8), 1);
        Checks.due("nothing is made for that", x.about(7), 3);
        Checks.due("the COMPLAINT's CAUSE stays", x.complaint(0, 1, 3), 2);
        x.complain(0, 6, 1);
        x.trial(0, 4, 6, 9);
        Checks.due("a new COMPLAINT", x.chain(0, 0), 6);
        Checks.due("not REFUSED", x.about(8), 1);
        AppealCourt y = raising();
        y.complain(0, 4, 1);
        y.policy(0, 0, 4, 0);
        y.policy(1, 4, 3, 0);
        Checks.due("REMANDED behind ENTER", y.trial(0, 4, 6, 9), 2);
        Checks.due("REFUSED the second time", y.about(8), 1);
        Checks.due("itself", y.chain(0, 0), 2);
    }

    private static void weigh() {
        AppealCourt x = raising();
        x.policy(1, 2, 5, 20);
        Checks.due("below", x.trial(0, 4, 5, 9), 1);
        Checks.due("where", x.about(2), 1);
        Checks.due("not below", x.trial(0, 4, 6, 9), 2);
        Checks.due("above", x.trial(0, 4, 7, 9), 2);
        x.policy(1, 2, 5, -5);
        Checks.due("below a number below 0", x.trial(0, -16, 0, 9), 1);
        Checks.due("at it", x.trial(0, -15, 0, 9), 2);
        Checks.due("the WEIGHT wraps", x.trial(0, Checks.MAX, 0, 9), 1);
        x.policy(1, 2, 5, Checks.MIN);
        Checks.due("nothing is below the least", x.trial(0, Checks.MAX - 10, 1, 9), 2);
    }

    private static void adjournedInAnInstance() {
        AppealCourt x = Checks.court("hearing h(a) { while 1 < a { hold X = Any(1); a = a - 1; } hold X = Form(1); raise X; }");
        x.policy(2, 1, 2, 0);
        Checks.due("WRAP makes the 100th", x.trial(0, 99, 0, 999), 2);
        Checks.due("made", x.about(7), 100);
        Checks.due("WRAP would make the 101st", x.trial(0, 100, 0, 999), 3);
        Checks.due("made", x.about(7), 200);
        Checks.nothingInChain("ADJOURNED", x, 0);
        x.policy(2, 1, 4, 0);
        x.complain(2, 4, 4);
        Checks.due("ENTER makes none", x.trial(0, 100, 0, 999), 2);
        Checks.due("made", x.about(7), 301);
    }
}
