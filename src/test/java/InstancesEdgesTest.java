/** "IV. INSTANCES", sentence by sentence, at the edges that it names. */
public final class InstancesEdgesTest {
    private static final String[] KINDS = {"Any", "Form", "Late", "Party", "Merit", "Bias", "Proof"};

    public static void main(String[] args) {
        noPolicyAtAll();
        ofWhatTheKindIsOneOf();
        takenAwayAgain();
        fromCountyToSupreme();
        pass();
        strike();
        wrapOfEachKind();
        wrapAtTheLimits();
        remandOnceMore();
        remandedWithinTheLimits();
        remandForgotten();
        enterWithoutAComplaint();
        enterWithAComplaint();
        enterRefused();
        enterAtTheLimits();
        weighAtItsBound();
        weighAtTheEnds();
        upheldBehindSupreme();
        refusedJoinsAreCounted();
        Checks.finish();
    }

    /** A court whose hearing raises one of the KIND, with GROUND a (and DAYS b, if it is LATE). */
    private static AppealCourt raising(int kind) {
        return Checks.court("hearing h(a, b) { hold X = " + KINDS[kind] + "(a" + (kind == 2 ? ", b" : "") + "); raise X; }");
    }

    /** A court whose hearing makes n objections and raises the last one, an ANY. */
    private static AppealCourt making() {
        return Checks.court("hearing h(n) { while n { hold X = Any(n); n = n - 1; } raise X; }");
    }

    /** "where it has none, .. at last: pass". */
    private static void noPolicyAtAll() {
        for (int kind = 0; kind < 7; kind++) {
            AppealCourt x = raising(kind);
            Checks.due("UPHELD", x.trial(0, 4, 6, 9), 2);
            Checks.due("STRUCK nowhere", x.about(2), -1);
            Checks.due("KIND", x.chain(0, 0), kind);
            Checks.due("SERIAL", x.chain(0, 3), 1);
            Checks.due("not SETTLED", x.chain(0, 5), 0);
            Checks.due("REMANDED", x.about(5), 0);
        }
    }

    /** "where it has none, that of what the KIND is one of counts, and so on". */
    private static void ofWhatTheKindIsOneOf() {
        for (int kind : new int[] {2, 3, 5, 6}) {
            int parent = kind < 4 ? 1 : 4;
            AppealCourt x = raising(kind);
            x.policy(1, 0, 2, 0);
            x.trial(0, 4, 6, 9);
            Checks.due("by that for ANY", x.chain(0, 0), 0);
            x.policy(1, parent, 2, parent);
            x.trial(0, 4, 6, 9);
            Checks.due("by that for its parent", x.chain(0, 0), parent);
            x.policy(1, kind, 2, 5 - parent);
            x.trial(0, 4, 6, 9);
            Checks.due("by its own", x.chain(0, 0), 5 - parent);
            x.policy(1, kind, -1, 0);
            x.policy(1, parent, 0, 0);
            x.trial(0, 4, 6, 9);
            Checks.due("PASS for its parent counts, too", x.chain(0, 3), x.about(7));
        }
        AppealCourt x = raising(1);
        x.policy(0, 2, 1, 0);
        x.policy(0, 3, 1, 0);
        x.policy(0, 4, 1, 0);
        Checks.due("those of its heirs do not count", x.trial(0, 4, 6, 9), 2);
        x = raising(0);
        for (int kind = 1; kind < 7; kind++) {
            x.policy(0, kind, 1, 0);
        }
        Checks.due("nor for ANY", x.trial(0, 4, 6, 9), 2);
    }

    /** "what -1: it has none". */
    private static void takenAwayAgain() {
        for (int instance = 0; instance < 3; instance++) {
            AppealCourt x = raising(2);
            x.policy(instance, 0, 1, 0);
            x.policy(instance, 2, 0, 0);
            Checks.due("PASS", x.trial(0, 4, 6, 9), 2);
            Checks.due("none", x.policy(instance, 2, -1, Checks.MIN), true);
            Checks.due("that for ANY again", x.trial(0, 4, 6, 9), 1);
            Checks.due("none", x.policy(instance, 0, -1, 7), true);
            Checks.due("pass", x.trial(0, 4, 6, 9), 2);
        }
    }

    /** "COUNTY holds the hearing, APPEAL has COUNTY do so, SUPREME APPEAL." */
    private static void fromCountyToSupreme() {
        AppealCourt x = raising(2);
        for (int instance = 2; instance >= 0; instance--) {
            x.policy(instance, 0, 1, 0);
            Checks.due("STRUCK", x.trial(0, 4, 6, 9), 1);
            Checks.due("by the first that strikes", x.about(2), instance);
        }
        x = raising(2);
        x.policy(0, 2, 2, 4);
        x.policy(1, 2, 1, 0);
        x.policy(1, 4, 2, 1);
        x.policy(2, 4, 1, 0);
        x.policy(2, 1, 2, 6);
        Checks.due("each sees what comes out below", x.trial(0, 4, 6, 9), 2);
        int[] kinds = {6, 1, 4, 2, -1};
        for (int i = 0; i < kinds.length; i++) {
            Checks.due("the CHAIN", x.chain(i, 0), kinds[i]);
        }
    }

    /** "0 PASS: it goes on as it is." */
    private static void pass() {
        for (int kind = 0; kind < 7; kind++) {
            AppealCourt x = raising(kind);
            for (int instance = 0; instance < 3; instance++) {
                x.policy(instance, 0, 1, 0);
                x.policy(instance, kind, 0, 6);
            }
            Checks.due("UPHELD", x.trial(0, 4, 6, 9), 2);
            Checks.due("as it is", x.chain(0, 0), kind);
            Checks.due("nothing else is made", x.about(7), 1);
            Checks.nothingInChain("PASS", x, 1);
        }
    }

    /** "1 STRIKE: the trial ends, the objection is STRUCK here." */
    private static void strike() {
        for (int instance = 0; instance < 3; instance++) {
            AppealCourt x = raising(6);
            x.policy(instance, 6, 1, 99);
            for (int above = instance + 1; above < 3; above++) {
                x.policy(above, 0, 3, 0);
            }
            Checks.due("STRUCK", x.trial(0, 4, 6, 9), 1);
            Checks.due("what it gave", x.about(0), 1);
            Checks.due("rested with", x.about(1), 0);
            Checks.due("here", x.about(2), instance);
            Checks.due("none above REMANDED", x.about(5), 0);
            Checks.due("hearings", x.about(6), 1);
            Checks.due("the objection", x.chain(0, 3), 1);
            Checks.read(x, "hearing h() {}");
            x.trial(0, 0, 0, 9);
            Checks.due("what RESTS is not STRUCK", x.about(2), -1);
        }
    }

    /** "2 WRAP k: the court makes one of KIND k with its GROUND (DAYS 0), because of it, and that goes on." */
    private static void wrapOfEachKind() {
        for (int kind = 0; kind < 7; kind++) {
            for (int k = 0; k < 7; k++) {
                AppealCourt x = raising(kind);
                x.policy(1, 0, 2, k);
                Checks.due("UPHELD", x.trial(0, Checks.MIN, 6, 9), 2);
                Checks.inChain("WRAP", x, 0, k, Checks.MIN, 0, 2, -1, 1);
                Checks.inChain("of", x, 1, kind, Checks.MIN, kind == 2 ? 6 : 0, 1, 27, 0);
                Checks.nothingInChain("once alone", x, 2);
            }
        }
        Checks.due("DAYS 0", wrapped(2).chain(0, 2), 0);
        Checks.due("WEIGHT of a LATE WRAP", wrapped(2).chain(0, 6), 14);
        Checks.due("WEIGHT of a PROOF WRAP", wrapped(6).chain(0, 6), 16);
    }

    private static AppealCourt wrapped(int k) {
        AppealCourt x = raising(2);
        x.policy(2, 2, 2, k);
        x.trial(0, 4, 6, 9);
        return x;
    }

    /** "(also one that .. an instance does) that would be the 101st made in the trial or the 8,001st in the court's life". */
    private static void wrapAtTheLimits() {
        for (int wraps = 1; wraps <= 3; wraps++) {
            AppealCourt x = making();
            for (int instance = 0; instance < wraps; instance++) {
                x.policy(instance, 0, 2, 4);
            }
            Checks.due("the 100th", x.trial(0, 100 - wraps, 0, 999), 2);
            Checks.due("made", x.about(7), 100);
            Checks.due("the 101st", x.trial(0, 101 - wraps, 0, 999), 3);
            Checks.due("made", x.about(7), 200);
            Checks.due("STRUCK nowhere", x.about(2), -1);
            Checks.nothingInChain("ADJOURNED", x, 0);
        }
        AppealCourt x = making();
        for (int i = 0; i < 79; i++) {
            x.trial(0, 100, 0, 999);
        }
        x.trial(0, 97, 0, 999);
        x.policy(2, 0, 2, 4);
        Checks.due("the 7,999th", x.trial(0, 1, 0, 999), 2);
        Checks.due("its SERIAL", x.chain(0, 3), 7999);
        Checks.due("the 8,000th is the hearing's, the 8,001st would be the WRAP", x.trial(0, 1, 0, 999), 3);
        Checks.due("made", x.about(7), 8000);
        Checks.nothingInChain("ADJOURNED", x, 0);
    }

    /** "3 REMAND: what is below (for COUNTY the hearing) is held once more, from the beginning; an objection that comes out again goes on as it is." */
    private static void remandOnceMore() {
        for (int instance = 0; instance < 3; instance++) {
            AppealCourt x = Checks.court("hearing h(a, b) { note a; a = a + 1; hold X = Any(b); if serial X == 1 { raise X; } hold X = Form(b); if b == 1 { raise X; } if b == 2 { while 1 {} } rest 6; }");
            x.policy(instance, 0, 3, 0);
            x.policy(instance, 1, 1, 0);
            Checks.due("the other goes on, too", x.trial(0, 5, 1, 99), 2);
            Checks.due("as it is", x.chain(0, 0), 1);
            Checks.due("REMANDED", x.about(5), 1);
            Checks.due("hearings", x.about(6), 2);
            Checks.notes("from the beginning", x, 5, 5);
            x = Checks.court("hearing h(a, b) { hold X = Any(b); if serial X == 1 { raise X; } if b == 2 { while 1 {} } rest 6; }");
            x.policy(instance, 0, 3, 0);
            Checks.due("RESTED then", x.trial(0, 5, 1, 99), 0);
            Checks.due("with", x.about(1), 6);
            Checks.due("REMANDED", x.about(5), 1);
            x = Checks.court("hearing h(a, b) { hold X = Any(b); if serial X == 1 { raise X; } if b == 2 { while 1 {} } rest 6; }");
            x.policy(instance, 0, 3, 0);
            Checks.due("ADJOURNED then", x.trial(0, 5, 2, 99), 3);
            Checks.due("REMANDED", x.about(5), 1);
            Checks.due("STEPS", x.about(3), 99);
        }
        remandsOfAll();
    }

    private static void remandsOfAll() {
        int[] remands = {0, 1, 1, 3, 1, 3, 3, 7};
        for (int mask = 0; mask < 8; mask++) {
            AppealCourt x = raising(2);
            for (int instance = 0; instance < 3; instance++) {
                x.policy(instance, 0, (mask >> instance & 1) == 1 ? 3 : 0, 0);
            }
            Checks.due("UPHELD", x.trial(0, 4, 6, 99), 2);
            Checks.due("REMANDED by " + mask, x.about(5), remands[mask]);
            Checks.due("hearings", x.about(6), remands[mask] + 1);
            Checks.due("the last one", x.chain(0, 3), remands[mask] + 1);
            x.trial(0, 4, 6, 99);
            Checks.due("in the next trial again", x.about(5), remands[mask]);
        }
    }

    /** One trial has one count of STEPS, of NOTES and of objections; hearings are no longer open when they are held once more. */
    private static void remandedWithinTheLimits() {
        AppealCourt x = raising(0);
        x.policy(1, 0, 3, 0);
        Checks.due("4 STEPS", x.trial(0, 4, 6, 4), 2);
        Checks.due("STEPS", x.about(3), 4);
        Checks.due("3 STEPS", x.trial(0, 4, 6, 3), 3);
        Checks.due("REMANDED", x.about(5), 1);
        Checks.due("2 STEPS", x.trial(0, 4, 6, 2), 3);
        Checks.due("REMANDED", x.about(5), 1);
        Checks.due("hearings", x.about(6), 2);
        Checks.due("1 STEP", x.trial(0, 4, 6, 1), 3);
        Checks.due("REMANDED", x.about(5), 0);
        x = Checks.court("hearing h(n) { while n { note n; n = n - 1; } raise X; }");
        x.policy(0, 0, 3, 0);
        Checks.due("200 NOTES", x.trial(0, 100, 0, 5000), 2);
        Checks.due("NOTES", x.about(4), 200);
        Checks.due("the 201st", x.trial(0, 101, 0, 5000), 3);
        Checks.due("the 200th", x.note(199), 3);
        x = making();
        x.policy(0, 0, 3, 0);
        Checks.due("100 objections", x.trial(0, 50, 0, 5000), 2);
        Checks.due("the 101st", x.trial(0, 51, 0, 5000), 3);
        Checks.due("made", x.about(7), 200);
        x = Checks.court("hearing h(n) { if n { hear h(n - 1); } raise X; }");
        x.policy(0, 0, 3, 0);
        Checks.due("12 hearings in one another, twice", x.trial(0, 11, 0, 5000), 2);
        Checks.due("begun", x.about(6), 24);
        Checks.due("the 13th", x.trial(0, 12, 0, 5000), 3);
        Checks.due("ADJOURNED is not REMANDED", x.about(5), 0);
    }

    /** What is below is held "from the beginning": it REMANDS, WRAPS and ENTERS anew. */
    private static void remandForgotten() {
        AppealCourt x = raising(2);
        x.policy(0, 2, 2, 4);
        x.policy(1, 4, 3, 0);
        Checks.due("wrapped twice", x.trial(0, 4, 6, 9), 2);
        Checks.due("made", x.about(7), 4);
        Checks.due("the second WRAP", x.chain(0, 3), 4);
        Checks.due("of the second one", x.chain(1, 3), 3);
        x = Checks.court("hearing h() { hold X = Any(1); if serial X != 1 { hold X = Form(2); } raise X; }");
        x.policy(0, 1, 1, 0);
        x.policy(2, 0, 3, 0);
        Checks.due("STRUCK below, when it is held once more", x.trial(0, 0, 0, 9), 1);
        Checks.due("there", x.about(2), 0);
        Checks.due("REMANDED", x.about(5), 1);
    }

    /** "without a COMPLAINT .. it goes on itself". */
    private static void enterWithoutAComplaint() {
        for (int instance = 0; instance < 3; instance++) {
            AppealCourt x = raising(2);
            x.policy(instance, 0, 4, 0);
            x.complain((instance + 1) % 3, 4, 3);
            x.complain((instance + 2) % 3, 4, 3);
            Checks.due("UPHELD", x.trial(0, 4, 6, 9), 2);
            Checks.inChain("itself", x, 0, 2, 4, 6, 3, 27, 0, 20);
            Checks.due("not REFUSED", x.about(8), 0);
            Checks.due("the others' are not joined", x.complaint((instance + 1) % 3, 0, 5), 0);
        }
    }

    /** "4 ENTER: the instance's COMPLAINT is joined to it, and goes on in its place". */
    private static void enterWithAComplaint() {
        for (int instance = 0; instance < 3; instance++) {
            for (int kind = 0; kind < 7; kind++) {
                AppealCourt x = raising(2);
                x.policy(instance, kind == 2 ? 3 : kind, 1, 0);
                x.policy(instance, 2, 4, 0);
                x.complain(instance, kind, 3);
                Checks.due("UPHELD", x.trial(0, 4, 6, 9), 2);
                Checks.inChain("the COMPLAINT", x, 0, kind, 3, 0, 1, -1, 1);
                Checks.inChain("it", x, 1, 2, 4, 6, 2, 27, 0, 20);
                Checks.due("SETTLED", x.complaint(instance, 0, 5), 1);
                Checks.due("its CAUSE", x.complaint(instance, 1, 3), 2);
                Checks.due("not REFUSED", x.about(8), 0);
                Checks.due("nothing is made", x.about(7), 2);
            }
        }
        AppealCourt x = raising(2);
        for (int instance = 0; instance < 3; instance++) {
            x.policy(instance, 0, 4, 0);
            x.complain(instance, 4 + instance % 3, instance);
        }
        x.trial(0, 4, 6, 9);
        int[] serials = {3, 2, 1, 4, 0};
        for (int i = 0; i < serials.length; i++) {
            Checks.due("three COMPLAINTS", x.chain(i, 3), serials[i]);
        }
    }

    /** ".. or where that is REFUSED (by III), it goes on itself". */
    private static void enterRefused() {
        for (int instance = 0; instance < 3; instance++) {
            AppealCourt x = raising(2);
            x.policy(instance, 0, 4, 0);
            x.complain(instance, 4, 3);
            x.trial(0, 4, 6, 9);
            Checks.due("joined", x.chain(0, 0), 4);
            for (int i = 1; i <= 3; i++) {
                Checks.due("UPHELD", x.trial(0, 4, 6, 9), 2);
                Checks.inChain("itself", x, 0, 2, 4, 6, 2 + i, 27, 0, 20);
                Checks.nothingInChain("alone", x, 1);
                Checks.due("REFUSED", x.about(8), i);
                Checks.due("the COMPLAINT's CAUSE stays", x.complaint(instance, 1, 3), 2);
                Checks.due("nothing is made by that", x.about(7), 2 + i);
            }
            x.complain(instance, 1, 3);
            x.trial(0, 4, 6, 9);
            Checks.due("a new COMPLAINT is joined", x.chain(0, 0), 1);
            Checks.due("REFUSED", x.about(8), 3);
        }
        AppealCourt x = raising(2);
        x.policy(0, 0, 4, 0);
        x.complain(0, 4, 3);
        x.policy(2, 0, 3, 0);
        x.trial(0, 4, 6, 9);
        Checks.due("REFUSED when it is held once more", x.about(8), 1);
        Checks.due("itself", x.chain(0, 3), 3);
    }

    /** ENTER makes no objection, so no number of them is too many for it. */
    private static void enterAtTheLimits() {
        AppealCourt x = making();
        x.policy(1, 0, 4, 0);
        x.complain(1, 4, 3);
        Checks.due("100 made in the trial", x.trial(0, 100, 0, 999), 2);
        Checks.due("the COMPLAINT", x.chain(0, 0), 4);
        Checks.due("REFUSED behind 100", x.trial(0, 100, 0, 999), 2);
        Checks.due("counted", x.about(8), 1);
        Checks.due("itself", x.chain(0, 0), 0);
        for (int i = 0; i < 77; i++) {
            x.trial(0, 100, 0, 999);
        }
        x.trial(0, 98, 0, 999);
        Checks.due("the 8,000th", x.trial(0, 1, 0, 999), 2);
        Checks.due("its SERIAL", x.chain(0, 3), 8000);
        Checks.due("REFUSED", x.about(8), 80);
    }

    /** "5 WEIGH w: STRIKE, if its WEIGHT is below w, else PASS." */
    private static void weighAtItsBound() {
        int[] weights = {4, 14, 20, 28, 12, 7, 12};
        for (int instance = 0; instance < 3; instance++) {
            for (int kind = 0; kind < 7; kind++) {
                AppealCourt x = raising(kind);
                for (int d = -1; d <= 1; d++) {
                    x.policy(instance, kind, 5, weights[kind] + d);
                    Checks.due("WEIGHT " + weights[kind] + " by " + (weights[kind] + d), x.trial(0, 4, 6, 9), d == 1 ? 1 : 2);
                    Checks.due("where", x.about(2), d == 1 ? instance : -1);
                    Checks.due("the objection", x.chain(0, 6), weights[kind]);
                }
            }
        }
        AppealCourt x = Checks.court("hearing h(a, b) { hold Y = Any(b); hold X = Proof(a) because Y; raise X; }");
        x.policy(0, 4, 5, 20);
        Checks.due("PROOF with its CAUSE, below", x.trial(0, 4, 7, 9), 1);
        Checks.due("PROOF with its CAUSE, at it", x.trial(0, 4, 8, 9), 2);
    }

    /** "any number for 5". */
    private static void weighAtTheEnds() {
        int[] ends = {Checks.MIN, Checks.MIN + 1, -1, 0, 1, Checks.MAX - 1, Checks.MAX};
        AppealCourt x = raising(0);
        AppealCourt form = raising(1);
        for (int w : ends) {
            Checks.due("WEIGH " + w, x.policy(0, 0, 5, w), true);
            form.policy(0, 0, 5, w);
            for (int ground : ends) {
                Checks.due("WEIGHT " + ground + " by " + w, x.trial(0, ground, 0, 9), ground < w ? 1 : 2);
                Checks.due("WEIGHT of FORM " + ground + " by " + w, form.trial(0, ground, 0, 9), ground + 10 < w ? 1 : 2);
            }
        }
    }

    /** "What comes out of SUPREME is UPHELD." */
    private static void upheldBehindSupreme() {
        AppealCourt x = raising(2);
        for (int what : new int[] {0, 2, 3, 4, 5}) {
            x.policy(2, 0, what, 0);
            Checks.due("by " + what, x.trial(0, 4, 6, 9), 2);
            Checks.due("what it gave", x.about(0), 2);
            Checks.due("rested with", x.about(1), 0);
            Checks.due("STRUCK nowhere", x.about(2), -1);
        }
        x.policy(2, 0, 1, 0);
        Checks.due("STRUCK", x.trial(0, 4, 6, 9), 1);
    }

    /** "A REFUSED join of either sort is counted (also where the objection that it brings would be one too many)." */
    private static void refusedJoinsAreCounted() {
        String text = "hearing h(n, k) { while n { hold X = Any(n); n = n - 1; } if k { join X to none; } join X to X; }";
        for (int k = 0; k <= 1; k++) {
            AppealCourt x = Checks.court(text);
            Checks.due("UPHELD", x.trial(0, 99, k, 999), 2);
            Checks.due("KIND", x.chain(0, 0), k == 1 ? 2 : 5);
            Checks.due("counted", x.about(8), 1);
            Checks.due("one too many", x.trial(0, 100, k, 999), 3);
            Checks.due("counted, too", x.about(8), 2);
            Checks.due("made", x.about(7), 200);
            Checks.due("a join of none is not REFUSED", x.trial(0, 0, k, 999), 2);
            Checks.due("not counted", x.about(8), 2);
            Checks.read(x, "hearing h() {}");
            x.trial(0, 0, 0, 9);
            Checks.due("of the court, not of the trial", x.about(8), 2);
        }
    }
}
