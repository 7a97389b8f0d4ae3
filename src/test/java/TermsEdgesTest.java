/** "Terms", sentence by sentence, at the edges that they name. */
public final class TermsEdgesTest {
    private static final String[] KINDS = {"Any", "Form", "Late", "Party", "Merit", "Bias", "Proof"};

    public static void main(String[] args) {
        serialsOfAllThatIsMade();
        placeOfTheFirstAndOfALaterKindWord();
        placeOfWhatTheCourtMakes();
        daysOfLateAlone();
        causeUntilItIsSettled();
        settledByBecause();
        settledByAJoin();
        settledForEver();
        refusedAsItsOwnCause();
        weightOfProofByItsCause();
        manyAtFifty();
        chainAtFifty();
        complaintsChainAtFifty();
        ringsOfEachLength();
        sumsThatWrap();
        productsThatWrap();
        comparedAtTheEnds();
        groundAndDaysAtTheEnds();
        Checks.finish();
    }

    /** "a SERIAL (1, 2, .. in the court's life, as they are made)". */
    private static void serialsOfAllThatIsMade() {
        AppealCourt x = Checks.court("hearing h(n) { hold X = Any(1); note X; try { note 1 / 0; } uphold Any Y { note Y; } if n { raise X; } }");
        x.trial(0, 0, 0, 99);
        Checks.notes("the first ones", x, 1, 2);
        Checks.due("a COMPLAINT", x.complain(0, 0, 0), 3);
        Checks.due("no COMPLAINT", x.complain(3, 0, 0), -1);
        x.policy(2, 0, 2, 0);
        x.trial(0, 1, 0, 99);
        Checks.notes("the next ones", x, 4, 5);
        Checks.due("a WRAP", x.chain(0, 3), 6);
        Checks.read(x, "hearing g() { hold X = Any(1); note X; }");
        x.trial(0, 0, 0, 99);
        Checks.notes("behind another text", x, 7);
        x = Checks.court("hearing h(n) { while n { hold X = Any(1); n = n - 1; } }");
        x.trial(0, 101, 0, 999);
        Checks.due("one that is not made has no SERIAL", x.complain(0, 0, 0), 101);
    }

    /** "a PLACE (of the KIND's word in the text by which it was made ..". */
    private static void placeOfTheFirstAndOfALaterKindWord() {
        String head = "hearing h(n) { if n {";
        for (String blanks : new String[] {"", "\n\t ", Checks.times(900, " ")}) {
            String before = head + blanks + "hold X = ";
            AppealCourt x = Checks.court(before + "Any(n); raise X; } hold X =Form(n); raise X; }");
            x.trial(0, 1, 0, 9);
            Checks.due("PLACE", x.chain(0, 4), before.length());
            x.trial(0, 0, 0, 9);
            Checks.due("PLACE of another", x.chain(0, 4), before.length() + 27);
            Checks.read(x, "hearing h() {}");
            Checks.due("PLACE behind another text", x.chain(0, 4), before.length() + 27);
        }
    }

    /** ".. NONE if the court made it itself)". */
    private static void placeOfWhatTheCourtMakes() {
        for (String st : new String[] {"raise X;", "note 1 / 0;", "hold X = Any(1); note days X;", "hold X = Any(1); join X to X;", "hold X = Any(1) because none; join X to X;"}) {
            Checks.due("PLACE by " + st, Checks.tried(2, st).chain(0, 4), -1);
        }
        AppealCourt x = Checks.court("hearing h() { hold X = Any(1); raise X; }");
        x.complain(0, 1, 2);
        Checks.due("PLACE of a COMPLAINT", x.complaint(0, 0, 4), -1);
        x.policy(0, 0, 2, 1);
        x.trial(0, 0, 0, 9);
        Checks.due("PLACE of a WRAP", x.chain(0, 4), -1);
        Checks.due("PLACE of what it wraps", x.chain(1, 4), 23);
    }

    /** "LATE ones have DAYS (an int)"; "FORM with 2 for days of one that is not LATE". */
    private static void daysOfLateAlone() {
        for (int kind = 0; kind < 7; kind++) {
            AppealCourt x = Checks.court("hearing h() { hold X = " + KINDS[kind] + "(8); try { note days X; } uphold Any Y { note ground Y; note Y is Form; note Y is Late; note Y is Party; } raise X; }");
            x.trial(0, 0, 0, 99);
            if (kind == 2) {
                Checks.notes("days of LATE", x, 0);
            } else {
                Checks.notes("days of " + KINDS[kind], x, 2, 1, 0, 0);
            }
            Checks.due("DAYS", x.chain(0, 2), 0);
        }
    }

    /** "until then it is none". */
    private static void causeUntilItIsSettled() {
        AppealCourt x = Checks.tried(2, "hold X = Any(1); hold C = cause X; note C; note many X; hold Y = Any(2); join X to Y; hold C = cause X; note C; note many X; raise Y;", 0, 1, 2, 2);
        Checks.inChain("the other one is not SETTLED by it", x, 0, 0, 2, 0, 2, 83, 0, 2);
        Checks.nothingInChain("and has no CAUSE", x, 1);
    }

    /** "it is SETTLED .. when it was made 'because' of something (none, too)". */
    private static void settledByBecause() {
        Checks.inChain("because of one", Checks.tried(2, "hold Y = Any(1); hold X = Any(2) because Y; raise X;"), 0, 0, 2, 0, 2, 44, 1);
        Checks.inChain("because none", Checks.tried(2, "hold X = Any(2) because none; raise X;"), 0, 0, 2, 0, 1, 27, 1);
        Checks.inChain("because of an OBJECT that is none", Checks.tried(2, "hold X = Any(2) because Y; raise X;"), 0, 0, 2, 0, 1, 27, 1);
        Checks.inChain("because of what it was itself, none", Checks.tried(2, "hold X = Any(2) because X; raise X;"), 0, 0, 2, 0, 1, 27, 1);
        Checks.inChain("without because", Checks.tried(2, "hold Y = Any(1); hold X = Any(2); raise X;"), 0, 0, 2, 0, 2, 44, 0);
    }

    /** ".. or joined once". */
    private static void settledByAJoin() {
        Checks.inChain("to one", Checks.tried(2, "hold Y = Any(1); hold X = Any(2); join X to Y; raise X;"), 0, 0, 2, 0, 2, 44, 1);
        Checks.inChain("to none", Checks.tried(2, "hold X = Any(2); join X to none; raise X;"), 0, 0, 2, 0, 1, 27, 1);
        Checks.inChain("to an OBJECT that is none", Checks.tried(2, "hold X = Any(2); join X to Y; raise X;"), 0, 0, 2, 0, 1, 27, 1);
    }

    /** "it is SETTLED, for ever". */
    private static void settledForEver() {
        for (String settled : new String[] {"hold X = Any(1) because Y;", "hold X = Any(1); join X to Y;"}) {
            AppealCourt x = Checks.tried(2, "hold Y = Any(5); hold Z = Any(6); let c = 3; " + settled + " while c { c = c - 1; try { if c == 0 { join X to none; } if c == 1 { join X to X; } join X to Z; }"
                    + " uphold Late L { note ground L; note X same Z; hold C = cause X; note C same Y; } } raise X;", 4, 0, 1, 4, 0, 1, 4, 0, 1);
            Checks.due("REFUSED", x.about(8), 3);
            Checks.due("still SETTLED", x.chain(0, 5), 1);
            Checks.due("its CAUSE", x.chain(1, 1), 5);
        }
        AppealCourt x = Checks.tried(0, "hold Y = Any(5); hold X = Any(1) because none; try { join X to Y; } uphold Late { note many X; hold C = cause X; note C; }", 1, 0);
        Checks.due("REFUSED", x.about(8), 1);
    }

    /** "else BIAS with 5, if it would be its own CAUSE": that leaves it as it was. */
    private static void refusedAsItsOwnCause() {
        AppealCourt x = Checks.tried(2, "hold X = Any(1); hold Z = X; let c = 2; while c { c = c - 1; try { join X to Z; } uphold Bias B { note ground B; note many X; } } raise X;", 5, 1, 5, 1);
        Checks.inChain("not SETTLED", x, 0, 0, 1, 0, 1, 27, 0);
        Checks.due("REFUSED", x.about(8), 2);
        x = Checks.tried(2, "hold X = Any(1); hold Y = Any(2); try { join X to X; } uphold Bias { join X to Y; } raise X;");
        Checks.due("joined to another then", x.chain(1, 1), 2);
    }

    /** "of PROOF as of MERIT, and the GROUND of its CAUSE, if it has one". */
    private static void weightOfProofByItsCause() {
        for (int kind = 0; kind < 7; kind++) {
            String cause = "hold Y = " + KINDS[kind] + "(100); hold X = Proof(4); note weight X;";
            Checks.tried(0, cause + " join X to Y; note weight X;", 12, 112);
            Checks.tried(0, cause + " join X to none; note weight X;", 12, 12);
        }
        Checks.tried(0, "hold Z = Any(1000); hold Y = Proof(100) because Z; hold X = Proof(4) because Y; note weight X;", 112);
        Checks.tried(0, "hold Z = Any(1000); hold Y = Bias(4) because Z; note weight Y; hold Y = Merit(4) because Z; note weight Y;", 7, 12);
    }

    private static final String LONG = "hearing h(n) { while n { hold X = Any(n) because X; n = n - 1; note many X; } raise X; }";

    /** "many (how many the CHAIN has)", "50 at most". */
    private static void manyAtFifty() {
        AppealCourt x = Checks.court(LONG);
        x.trial(0, 60, 0, 999);
        for (int k = 0; k < 60; k++) {
            Checks.due("many of " + (k + 1), x.note(k), Math.min(k + 1, 50));
        }
    }

    /** "CHAIN: an objection, its CAUSE, and so on to the last one, 50 at most". */
    private static void chainAtFifty() {
        for (int n : new int[] {1, 2, 48, 49, 50, 51, 52, 100}) {
            AppealCourt x = Checks.court(LONG);
            x.trial(0, n, 0, 999);
            for (int i = 0; i < 60; i++) {
                Checks.due("chain of " + n + " at " + i, x.chain(i, 3), i < n && i < 50 ? n - i : 0);
                Checks.due("KIND there", x.chain(i, 0), i < n && i < 50 ? 0 : -1);
            }
        }
    }

    /** "complaint: Likewise of the CHAIN of an instance's COMPLAINT". */
    private static void complaintsChainAtFifty() {
        for (int n : new int[] {1, 48, 49, 50, 51}) {
            AppealCourt x = Checks.court(LONG);
            x.complain(1, 4, 7);
            x.policy(1, 0, 4, 0);
            x.trial(0, n, 0, 999);
            Checks.due("the COMPLAINT", x.complaint(1, 0, 3), 1);
            for (int i = 1; i < 60; i++) {
                Checks.due("complaint's chain of " + (n + 1) + " at " + i, x.complaint(1, i, 3), i <= n && i < 50 ? n + 2 - i : 0);
                Checks.due("KIND there", x.complaint(1, i, 0), i <= n && i < 50 ? 0 : -1);
            }
        }
    }

    private static void ringsOfEachLength() {
        for (int n : new int[] {2, 3, 49, 50, 51}) {
            AppealCourt x = Checks.court("hearing h(n) { hold A = Any(1); hold X = A; n = n - 1; while n { hold X = Any(n) because X; n = n - 1; } join A to X; note many A; note many X; raise X; }");
            x.trial(0, n, 0, 999);
            Checks.notes("a ring of " + n, x, 50, 50);
            for (int i = 0; i < 50; i++) {
                Checks.due("a ring of " + n + " at " + i, x.chain(i, 3), n - i % n);
            }
            Checks.nothingInChain("a ring of " + n, x, 50);
        }
    }

    /** "Numbers are ints that wrap". */
    private static void sumsThatWrap() {
        AppealCourt x = Checks.court("hearing h(a, b) { note a + b; note a - b; note -a; note - -a; note a + a + a; note a - b - b; rest a + 1; }");
        int[] ends = {Checks.MIN, Checks.MIN + 1, -1, 0, 1, Checks.MAX - 1, Checks.MAX};
        for (int a : ends) {
            for (int b : ends) {
                x.trial(0, a, b, 9);
                Checks.notes("sums of " + a + ", " + b, x, a + b, a - b, -a, a, a + a + a, a - b - b);
                Checks.due("rest", x.about(1), a + 1);
            }
        }
    }

    private static void productsThatWrap() {
        for (int a : new int[] {Checks.MIN, Checks.MIN + 1, -65536, -1, 0, 1, 46341, 65536, Checks.MAX}) {
            AppealCourt x = Checks.court("hearing h(a, b) { note a * b; note a * a; note a * 65536 * 65536; note a / b; note a % b; }");
            for (int b : new int[] {Checks.MIN, -65536, -2, -1, 1, 2, 46341, 65536, Checks.MAX}) {
                x.trial(0, a, b, 9);
                int quotient = (int) ((long) a / b);
                Checks.notes("products of " + a + ", " + b, x, a * b, a * a, 0, quotient, (int) ((long) a % b));
            }
        }
    }

    private static void comparedAtTheEnds() {
        AppealCourt x = Checks.court("hearing h(a, b) { note a < b; note a == b; note a != b; if a { note 8; } }");
        for (int a : new int[] {Checks.MIN, -1, 0, 1, Checks.MAX}) {
            for (int b : new int[] {Checks.MIN, -1, 0, 1, Checks.MAX}) {
                x.trial(0, a, b, 9);
                Checks.due(a + " < " + b, x.note(0), a < b ? 1 : 0);
                Checks.due(a + " == " + b, x.note(1), a == b ? 1 : 0);
                Checks.due(a + " != " + b, x.note(2), a != b ? 1 : 0);
                Checks.due("if " + a, x.note(3), a != 0 ? 8 : 0);
            }
        }
    }

    /** "Each has a GROUND (an int)". */
    private static void groundAndDaysAtTheEnds() {
        AppealCourt x = Checks.court("hearing h(a, b) { hold X = Late(a, b); note ground X; note days X; note weight X; raise X; }");
        for (int a : new int[] {Checks.MIN, -10, -1, 0, Checks.MAX - 10, Checks.MAX}) {
            for (int b : new int[] {Checks.MIN, -1, 0, 1, Checks.MAX}) {
                x.trial(0, a, b, 9);
                Checks.notes("LATE with " + a + ", " + b, x, a, b, a + 10 + b);
                Checks.due("GROUND", x.chain(0, 1), a);
                Checks.due("DAYS", x.chain(0, 2), b);
            }
            x.complain(0, 3, a);
            Checks.due("GROUND of a COMPLAINT", x.complaint(0, 0, 1), a);
            Checks.due("its WEIGHT", x.complaint(0, 0, 6), 2 * (a + 10));
        }
    }
}
