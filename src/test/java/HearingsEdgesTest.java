/** "III. HEARINGS", sentence by sentence, at the edges that it names. */
public final class HearingsEdgesTest {
    public static void main(String[] args) {
        whatAHearingBeginsWith();
        fromTheLeft();
        dividedBySigns();
        theLeastIntByMinusOne();
        ofNone();
        daysNotTold();
        theObjectionItself();
        restedWithNothing();
        ofENotZero();
        raisedForNone();
        raisedForDays();
        raisedForDivisionByZero();
        raisedForAJoinOfNone();
        raisedForARefusedJoin();
        innermostTryThatItComesOutOf();
        firstUpholdWhoseKindItIs();
        outOfAnUpholdsBlock();
        lastlyHoweverItIsLeft();
        lastlyOfATryInAHearing();
        whatGoesOnBehindALastlyWithTries();
        longestSums();
        oneStepTooMany();
        oneStepTooManyAnywhere();
        whileAheadOfEachTime();
        thirteenthHearing();
        thirteenthHearingBehindItsEs();
        hearingsOneBehindAnother();
        noteTwoHundredAndOne();
        noteTwoHundredAndOneBehindItsE();
        objectionOneHundredAndOne();
        objectionEightThousandAndOne();
        adjournedAtOnce();
        Checks.finish();
    }

    /** "Its numbers are 0 when it begins, but for the parameters, its OBJECTS are none." */
    private static void whatAHearingBeginsWith() {
        AppealCourt x = Checks.court("hearing h(n) { if 0 { let c = 9; } note c; note X; note n; c = 5; hold X = Any(1); if n { hear h(n - 1); } note c; note X; }");
        x.trial(0, 2, 0, 99);
        Checks.notes("in one another", x, 0, 0, 2, 0, 0, 1, 0, 0, 0, 5, 3, 5, 2, 5, 1);
        x.trial(0, 0, 0, 99);
        Checks.notes("in the next trial", x, 0, 0, 0, 5, 4);
        x = Checks.court("hearing h() { let c = 3; while c { hear g(); c = c - 1; } } hearing g() { if 0 { let c = 1; } note c; note X; c = 7; hold X = Any(1); }");
        x.trial(0, 0, 0, 99);
        Checks.notes("one behind another", x, 0, 0, 0, 0, 0, 0);
        Checks.tried(0, "let c = 2; while c { let d = 0; note d; d = 5; c = c - 1; } note d;", 0, 0, 5);
    }

    /** "Things are done in order, e's from the left." */
    private static void fromTheLeft() {
        String[] es = {"1 / 0", "ground N", "days F"};
        int[] kinds = {6, 3, 1};
        String[] all = {"note $1 + $2;", "note $1 - $2;", "note $1 * $2;", "note $1 / $2;", "note $1 % $2;", "note $1 < $2;", "note $1 == $2;", "note $1 != $2;",
            "hold X = Late($1, $2);", "hear h($1, $2);", "note (1 + $1) * -($2);"};
        for (String st : all) {
            for (int first = 0; first < 3; first++) {
                for (int second = 0; second < 3; second++) {
                    String text = "hold F = Form(1); " + st.replace("$1", es[first]).replace("$2", es[second]);
                    AppealCourt x = Checks.tried(2, text);
                    Checks.due(text, x.chain(0, 0), kinds[first]);
                    Checks.due("nothing else is made by " + text, x.about(7), 2);
                }
            }
        }
        AppealCourt x = Checks.tried(2, "hold F = Form(1); hold X = Late(1, 1 / 0);");
        Checks.due("X is not made", x.about(7), 2);
    }

    /** "/ goes towards 0, % has the sign of what is divided". */
    private static void dividedBySigns() {
        AppealCourt x = Checks.court("hearing h(a, b) { note a / b; note a % b; }");
        int[][] all = {{7, 2, 3, 1}, {-7, 2, -3, -1}, {7, -2, -3, 1}, {-7, -2, 3, -1}, {6, 3, 2, 0}, {-6, 3, -2, 0}, {1, 2, 0, 1}, {-1, 2, 0, -1}, {0, 5, 0, 0}, {0, -5, 0, 0},
            {Checks.MIN, 1, Checks.MIN, 0}, {Checks.MIN, Checks.MIN, 1, 0}, {Checks.MAX, Checks.MIN, 0, Checks.MAX}, {Checks.MIN, Checks.MAX, -1, -1}, {Checks.MAX, -1, -Checks.MAX, 0}};
        for (int[] one : all) {
            x.trial(0, one[0], one[1], 9);
            Checks.notes(one[0] + " by " + one[1], x, one[2], one[3]);
        }
    }

    /** "(the least int by -1: itself, 0)". */
    private static void theLeastIntByMinusOne() {
        AppealCourt x = Checks.court("hearing h(a, b) { note a / b; note a % b; note a / -1; note a % -1; }");
        Checks.due("RESTED", x.trial(0, Checks.MIN, -1, 9), 0);
        Checks.notes("the least int", x, Checks.MIN, 0, Checks.MIN, 0);
        Checks.due("RESTED", x.trial(0, Checks.MIN + 1, -1, 9), 0);
        Checks.notes("the one behind it", x, Checks.MAX, 0, Checks.MAX, 0);
    }

    /** "is tells 1 if its KIND IS that (0 of none); same 1 if both are the very same one, or none"; "(0 of none)". */
    private static void ofNone() {
        for (String kind : "Any Form Late Party Merit Bias Proof".split(" ")) {
            Checks.tried(0, "note X is " + kind + "; hold X = none; note X is " + kind + "; hold X = " + kind + "(0); note X is " + kind + ";", 0, 0, 1);
        }
        Checks.tried(0, "note X same X; note X same Y; hold X = Any(1); note X same X; note X same Y; note Y same X; hold Y = Any(1); note X same Y; hold Y = X; note X same Y;"
                + " hold X = none; note X same Y;", 1, 1, 1, 0, 0, 0, 1, 0);
        Checks.tried(0, "note X; hold X = Any(1); note X; hold X = cause X; note X; hold X = Any(1); hold X = Y; note X;", 0, 1, 0, 0);
    }

    /** "makes an objection with the GROUND and DAYS (0 if not told)". */
    private static void daysNotTold() {
        Checks.tried(0, "hold X = Late(5); note days X; hold X = Late(5, 0); note days X; hold X = Late(5, 6); note days X; hold X = Late(5); note days X; note ground X;", 0, 0, 6, 0, 5);
    }

    /** "raise X raises the objection itself." */
    private static void theObjectionItself() {
        Checks.tried(0, "hold X = Any(1); hold Z = X; try { raise X; } uphold Any Y { note Y same X; note Y same Z; try { raise Y; } uphold Any X { note X same Z; } }", 1, 1, 1);
        AppealCourt x = Checks.tried(2, "hold X = Any(1); try { raise X; } uphold Any Y { raise Y; }");
        Checks.due("its SERIAL", x.chain(0, 3), 1);
        Checks.due("nothing else is made", x.about(7), 1);
    }

    /** "rest ends the hearing (0 if nothing is told; so it is at its end, too)". */
    private static void restedWithNothing() {
        for (String st : new String[] {"", "rest;", "rest 0;", "if 0 { rest 5; }", "let c = 3; try { rest; } lastly { c = 4; }"}) {
            AppealCourt x = Checks.court("hearing g() { let v = 8; hear h(9) into v; note v; rest v + 1; } hearing h(a) { " + st + " }");
            Checks.due("RESTED", x.trial(0, 0, 0, 99), 0);
            Checks.notes("hear of " + st, x, 0);
            Checks.due("RESTED", x.trial(1, 7, 0, 99), 0);
            Checks.due("rested with by " + st, x.about(1), 0);
        }
        AppealCourt x = Checks.court("hearing g() { let v = 8; hear h(9); note v; hear h(9) into v; note v; } hearing h(a) { while 1 { if 1 { rest a; } } note 5; }");
        x.trial(0, 0, 0, 99);
        Checks.notes("into a NAME or not", x, 8, 9);
    }

    /** "if, while: of e not 0". */
    private static void ofENotZero() {
        AppealCourt x = Checks.court("hearing h(a) { if a { note 1; } else { note 2; } if a { note 3; } while a { note 4; a = 0; } note 5; }");
        for (int a : new int[] {1, -1, 2, Checks.MIN, Checks.MAX, 65536, 256}) {
            x.trial(0, a, 0, 99);
            Checks.notes("of " + a, x, 1, 3, 4, 5);
        }
        x.trial(0, 0, 0, 99);
        Checks.notes("of 0", x, 2, 5);
    }

    /** "PARTY with GROUND 1 where something is asked of none (raise, cause, ground, days, weight, many, serial of it ..". */
    private static void raisedForNone() {
        String[] all = {"raise N;", "hold X = cause N;", "hold N = cause N;", "note ground N;", "note days N;", "note weight N;", "note many N;", "note serial N;", "rest 1 + ground N;", "if many N {}",
            "while serial N {}", "hold X = Any(weight N);", "hear h(1, ground N);", "a = -days N;"};
        for (String st : all) {
            AppealCourt x = Checks.tried(2, st + " note 1;");
            Checks.inChain(st, x, 0, 3, 1, 0, 1, -1, 0, 22);
            Checks.nothingInChain(st, x, 1);
            Checks.due("made by " + st, x.about(7), 1);
            Checks.due("REFUSED by " + st, x.about(8), 0);
            String good = "hold N = Late(1); ";
            Checks.due("of one " + st, Checks.court("hearing h(a, b) { " + good + "if a == 1 { rest; } " + st + " }").trial(0, 7, 2, 99), st.equals("raise N;") ? 2 : st.startsWith("while") ? 3 : 0);
        }
    }

    /** "FORM with 2 for days of one that is not LATE". */
    private static void raisedForDays() {
        for (String kind : "Any Form Party Merit Bias Proof".split(" ")) {
            AppealCourt x = Checks.tried(2, "hold X = " + kind + "(9); note 1 + days X; note 1;");
            Checks.inChain("days of " + kind, x, 0, 1, 2, 0, 2, -1, 0, 12);
            Checks.nothingInChain("not because of it", x, 1);
        }
        Checks.tried(0, "hold X = Late(9, 4); note 1 + days X; note 1;", 5, 1);
    }

    /** "PROOF with 3 for / or % by 0". */
    private static void raisedForDivisionByZero() {
        for (String st : new String[] {"note a / 0;", "note a % 0;", "note 0 / 0;", "note 0 % 0;", "note a / (b - 2) * 0;", "rest 5 % (1 < 0);", "let c = 0; a = a / c;"}) {
            AppealCourt x = Checks.tried(2, st);
            Checks.inChain(st, x, 0, 6, 3, 0, 1, -1, 0, 9);
            Checks.nothingInChain(st, x, 1);
        }
        Checks.tried(0, "note a / 1; note a % 1; note a / -1; note a % -1;", 7, 0, -7, 0);
        Checks.tried(0, "try { a = 5 / 0; } uphold Any {} note a; try { let c = 5 % 0; } uphold Any {} note c;", 7, 0);
    }

    /** "join of none to anything, looked at ahead of all else in it". */
    private static void raisedForAJoinOfNone() {
        for (String to : new String[] {"none", "N", "M", "Y", "S"}) {
            AppealCourt x = Checks.tried(2, "hold Y = Any(1); hold S = Any(1) because Y; join N to " + to + ";");
            Checks.inChain("join of none to " + to, x, 0, 3, 1, 0, 3, -1, 0, 22);
            Checks.due("REFUSED", x.about(8), 0);
        }
        Checks.due("join of one to none", Checks.tried(0, "hold Y = Any(1); join Y to N;").about(7), 1);
    }

    /** "for a join that is REFUSED, because of the first objection: LATE with 4 and DAYS 0, if it is SETTLED; else BIAS with 5, if it would be its own CAUSE." */
    private static void raisedForARefusedJoin() {
        String[] settled = {"hold X = Any(8) because none;", "hold X = Any(8) because Y;", "hold X = Any(8); join X to Y;", "hold X = Any(8); join X to none;"};
        for (String made : settled) {
            for (String to : new String[] {"none", "N", "X", "Y", "Z"}) {
                AppealCourt x = Checks.tried(2, "hold Y = Any(1); hold Z = Any(1); " + made + " join X to " + to + "; note 1;");
                Checks.inChain(made + " to " + to, x, 0, 2, 4, 0, 4, -1, 1, 14);
                Checks.inChain("because of the first", x, 1, 0, 8, 0, 3);
                Checks.due("REFUSED", x.about(8), 1);
            }
        }
        AppealCourt x = Checks.tried(2, "hold X = Any(8); hold Z = X; join X to Z;");
        Checks.inChain("its own CAUSE", x, 0, 5, 5, 0, 2, -1, 1, 10);
        Checks.inChain("because of it", x, 1, 0, 8, 0, 1, 27, 0, 8);
        Checks.nothingInChain("it has no CAUSE", x, 2);
        Checks.due("another is not refused", Checks.tried(0, "hold X = Any(8); hold Z = Any(8); join X to Z;").about(8), 0);
    }

    /** "An objection that is raised goes out of all that is being done up to the innermost try block that it comes out of". */
    private static void innermostTryThatItComesOutOf() {
        Checks.tried(0, "hold X = Any(1); try { try { while 1 { if 1 { raise X; } note 9; } note 9; } uphold Any { note 1; } note 2; } uphold Any { note 9; }", 1, 2);
        Checks.tried(0, "hold X = Any(1); try { try { note 0; } uphold Any { note 9; } raise X; } uphold Any { note 1; }", 0, 1);
        Checks.tried(0, "hold X = Any(1); try { try { note 0; } lastly { raise X; } } uphold Any { note 1; }", 0, 1);
        AppealCourt x = Checks.court("hearing h() { try { hear g(4); note 9; } uphold Any X { note ground X; } try { note 2; } uphold Any { note 9; } }"
                + " hearing g(n) { if n { hear g(n - 1); } else { try { note 1; } uphold Any { note 9; } hold X = Any(77); raise X; } note 9; }");
        Checks.due("RESTED", x.trial(0, 0, 0, 99), 0);
        Checks.notes("out of five hearings", x, 1, 77, 2);
        Checks.tried(2, "hold X = Any(1); try { note 0; } uphold Any { note 9; } lastly { note 1; } raise X;", 0, 1);
    }

    /** "the first uphold whose KIND it IS has it (its OBJECT becomes it) and its block is done; none: it goes on". */
    private static void firstUpholdWhoseKindItIs() {
        String upholds = "uphold Late { note 2; } uphold Party { note 3; } uphold Bias Y { note 5; } uphold Merit Y { note 4; } uphold Proof { note 6; }";
        String[] kinds = {"Any", "Form", "Late", "Party", "Merit", "Bias", "Proof"};
        int[] upheld = {0, 0, 2, 3, 4, 5, 4};
        int[] held = {0, 0, 0, 0, 1, 1, 1};
        for (int k = 0; k < 7; k++) {
            String st = "hold X = " + kinds[k] + "(1); try { raise X; } " + upholds;
            if (upheld[k] == 0) {
                Checks.due("it goes on", Checks.tried(2, st + " note 9;").chain(0, 0), k);
            } else {
                Checks.tried(0, st + " note Y;", upheld[k], held[k]);
            }
            Checks.tried(0, st + " uphold Any Z { note 7; note Z; } note Y;", upheld[k] == 0 ? new int[] {7, 1, 0} : new int[] {upheld[k], held[k]});
            Checks.tried(0, "hold X = " + kinds[k] + "(1); try { raise X; } uphold Any { note 7; } " + upholds, 7);
        }
        Checks.tried(0, "hold Y = Any(5); hold X = Any(6); try { raise X; } uphold Late Y {} uphold Any {} note ground Y; try { raise X; } uphold Any Y {} note ground Y;", 5, 6);
    }

    /** "What comes out of an uphold's block is not upheld there." */
    private static void outOfAnUpholdsBlock() {
        Checks.due("by none of them", Checks.tried(2, "try { raise N; } uphold Party P { note 1; raise P; } uphold Any { note 9; }", 1).chain(0, 0), 3);
        Checks.due("nor what another hearing raises there", Checks.tried(2, "if a == 1 { raise N; } try { raise N; } uphold Any { note 1; hear h(1, 0); } uphold Any { note 9; }", 1).chain(0, 3), 2);
        Checks.tried(0, "try { try { raise N; } uphold Any P { note 1; raise P; } uphold Any { note 9; } } uphold Party { note 2; }", 1, 2);
        Checks.tried(0, "try { raise N; } uphold Any { try { raise N; } uphold Any { note 1; } note 2; } note 3;", 1, 2, 3);
    }

    /** "lastly's block is done at last, however the try's or an uphold's block is left ..; an objection or rest that comes out of it takes their place." */
    private static void lastlyHoweverItIsLeft() {
        String[] left = {"note 1;", "hold X = Form(11); raise X;", "rest 21;"};
        String[] last = {"note 2;", "note 2; hold X = Form(12); raise X;", "note 2; rest 22;"};
        for (int l = 0; l < 3; l++) {
            for (int m = 0; m < 3; m++) {
                int end = m == 0 ? l : m;
                int which = m == 0 ? 1 : 2;
                String inTry = "try { " + left[l] + " } lastly { " + last[m] + " } note 3;";
                howItEnds(inTry, end, which, l == 0);
                String inUphold = "try { note 0 / 0; } uphold Proof { " + left[l] + " } uphold Any { note 9; } lastly { " + last[m] + " } note 3;";
                howItEnds(inUphold, end, which, l == 0);
                String notUpheld = "try { " + left[l] + " } uphold Merit { note 9; } uphold Party { note 9; } lastly { " + last[m] + " } note 3;";
                howItEnds(notUpheld, end, which, l == 0);
                String nested = "try { " + inTry + " } lastly { note 4; }";
                Checks.due("the outer one, too: " + nested, noteBehind(nested), 4);
            }
        }
    }

    private static void howItEnds(String statements, int end, int which, boolean noted) {
        AppealCourt x = Checks.court("hearing h() { " + statements + " }");
        Checks.due(statements, x.trial(0, 0, 0, 99), end == 1 ? 2 : 0);
        Checks.due("rested with by " + statements, x.about(1), end == 2 ? 20 + which : 0);
        Checks.due("GROUND by " + statements, x.chain(0, 1), end == 1 ? 10 + which : 0);
        int lastlys = noted ? 1 : 0;
        Checks.due("lastly of " + statements, x.note(lastlys), 2);
        Checks.due("NOTES of " + statements, x.about(4), lastlys + 1 + (end == 0 ? 1 : 0));
    }

    private static int noteBehind(String statements) {
        AppealCourt x = Checks.court("hearing h() { " + statements + " }");
        x.trial(0, 0, 0, 99);
        return x.note(x.about(4) - 1);
    }

    private static void lastlyOfATryInAHearing() {
        AppealCourt x = Checks.court("hearing h() { let v = 1; try { hear g(1) into v; note v; hear g(2) into v; note v; } uphold Any { note 50; note v; } lastly { note 60; } }"
                + " hearing g(k) { try { try { if k == 2 { raise N; } rest 30 + k; } lastly { note k; } note 9; } lastly { note 10 + k; } note 9; }");
        Checks.due("RESTED", x.trial(0, 0, 0, 99), 0);
        Checks.notes("each lastly", x, 1, 11, 31, 2, 12, 50, 31, 60);
    }

    /** "by its end, an objection or rest, which go on behind it". */
    private static void whatGoesOnBehindALastlyWithTries() {
        String[] blocks = {"try { note 1; } lastly { note 2; }", "try { note 1; try { raise N; } uphold Any { note 2; } lastly { c = 1; } } lastly { c = 2; }", "note 1; hear g(); note 2;"};
        for (String block : blocks) {
            String lastly = " lastly { c = 0; " + block + " } note 9;";
            String tail = " } hearing g() { try { try { rest 44; } lastly { hold Z = none; } } lastly { hold Z = none; } }";
            AppealCourt x = Checks.court("hearing h() { let c = 0; try { rest 21; }" + lastly + tail);
            Checks.due("RESTED behind " + block, x.trial(0, 0, 0, 99), 0);
            Checks.due("rested with", x.about(1), 21);
            Checks.notes(block, x, 1, 2);
            x = Checks.court("hearing h() { let c = 7; while c { hold X = Any(c); c = c - 1; } try { raise X; }" + lastly + tail);
            Checks.due("UPHELD behind " + block, x.trial(0, 0, 0, 99), 2);
            Checks.due("the objection", x.chain(0, 3), 7);
            Checks.notes(block, x, 1, 2);
            x = Checks.court("hearing h() { let c = 0; try { c = 1; }" + lastly + tail);
            Checks.due("behind its end", x.trial(0, 0, 0, 99), 0);
            Checks.notes(block, x, 1, 2, 9);
        }
    }

    /** As much as can wait for its other half in 20 that are open in one another. */
    private static void longestSums() {
        AppealCourt x = Checks.court("hearing h() { note " + "0 < 1 + 2 * (".repeat(19) + "3" + ")".repeat(19) + "; hear g(5, 6, 7, " + "0 < 1 + 2 * (".repeat(18) + "3" + ")".repeat(18) + "); }"
                + " hearing g(a, b, c, d) { note a; note b; note c; note d; }");
        Checks.due("RESTED", x.trial(0, 0, 0, 9), 0);
        Checks.notes("deep", x, 1, 5, 6, 7, 1);
        x = Checks.court("hearing h(a) { rest " + "a - 2 * (".repeat(19) + "3" + ")".repeat(19) + "; }");
        x.trial(0, 5, 0, 9);
        int due = 3;
        for (int i = 0; i < 19; i++) {
            due = 5 - 2 * due;
        }
        Checks.due("rested with", x.about(1), due);
    }

    /** "A trial is ADJOURNED .. ahead of a statement .. that would be one STEP too many". */
    private static void oneStepTooMany() {
        String[] each = {"let c = 1;", "a = 1;", "hold X = Y;", "hold X = none;", "hold X = Any(1);", "note 1;", "note X;", "hear g();", "rest 4;", "if 0 {}", "while 0 {}", "try {} lastly {}", "raise Y;", "hold X = cause Y;", "join Y to X;"};
        for (String st : each) {
            AppealCourt x = Checks.court("hearing h(a) { a = 0; hold Y = Any(1); " + st + " } hearing g() {}");
            Checks.due("3 STEPS of " + st, x.trial(0, 0, 0, 3), st.equals("raise Y;") ? 2 : 0);
            Checks.due("STEPS", x.about(3), 3);
            int made = x.about(7);
            int noted = x.about(4);
            int begun = x.about(6);
            Checks.due("2 STEPS of " + st, x.trial(0, 0, 0, 2), 3);
            Checks.due("STEPS", x.about(3), 2);
            Checks.due("ahead of it: objections", x.about(7) - made, 1);
            Checks.due("ahead of it: NOTES", x.about(4), 0);
            Checks.due("ahead of it: hearings", x.about(6), 1);
            Checks.due("with it", noted + begun, st.startsWith("note") || st.startsWith("hear") ? 2 : 1);
        }
        AppealCourt x = Checks.court("hearing h() {}");
        Checks.due("no statement, no STEP", x.trial(0, 0, 0, 1), 0);
        Checks.due("STEPS", x.about(3), 0);
    }

    private static void oneStepTooManyAnywhere() {
        String[] all = {"if 1 { note 1; }", "if 0 {} else { note 1; }", "try { note 1; } uphold Any {}", "try { note 1; } lastly {}", "try {} lastly { note 1; }", "hear g();"};
        for (String st : all) {
            AppealCourt x = Checks.court("hearing h() { " + st + " } hearing g() { note 1; }");
            Checks.due("2 STEPS of " + st, x.trial(0, 0, 0, 2), 0);
            Checks.due("NOTES", x.about(4), 1);
            Checks.due("1 STEP of " + st, x.trial(0, 0, 0, 1), 3);
            Checks.due("STEPS", x.about(3), 1);
            Checks.due("NOTES", x.about(4), 0);
        }
        AppealCourt x = Checks.court("hearing h() { try { raise N; } uphold Any { note 1; } lastly { note 2; } }");
        int[] notes = {0, 0, 0, 1, 2};
        for (int steps = 1; steps <= 4; steps++) {
            Checks.due(steps + " STEPS", x.trial(0, 0, 0, steps), steps == 4 ? 0 : 3);
            Checks.due("NOTES with " + steps, x.about(4), notes[steps]);
        }
    }

    /** "(a while: ahead of each time that its e is asked)". */
    private static void whileAheadOfEachTime() {
        AppealCourt x = Checks.court("hearing h(n) { while n { n = n - 1; } }");
        for (int n = 0; n <= 5; n++) {
            Checks.due("enough for " + n, x.trial(0, n, 0, 2 * n + 1), 0);
            Checks.due("STEPS of " + n, x.about(3), 2 * n + 1);
            if (n > 0) {
                Checks.due("one less for " + n, x.trial(0, n, 0, 2 * n), 3);
                Checks.due("STEPS", x.about(3), 2 * n);
            }
        }
        Checks.due("the most", x.trial(0, 2499, 0, 5000), 0);
        Checks.due("STEPS", x.about(3), 4999);
        Checks.due("more", x.trial(0, 2500, 0, 5000), 3);
        Checks.due("STEPS", x.about(3), 5000);
        x = Checks.court("hearing h() { while 1 {} }");
        for (int steps : new int[] {1, 2, 4999, 5000}) {
            Checks.due("for ever", x.trial(0, 0, 0, steps), 3);
            Checks.due("STEPS", x.about(3), steps);
        }
        x = Checks.court("hearing h() { let c = 1; while 1 / c { c = 0; } }");
        Checks.due("ahead of its e", x.trial(0, 0, 0, 3), 3);
        Checks.due("nothing was raised", x.about(7), 0);
        Checks.due("its e", x.trial(0, 0, 0, 4), 2);
    }

    private static final String DEEP = "hearing h(n) { note n; if n { try { hear g(n - 1); } uphold Any { note 50; } lastly { note 90; } } }"
            + " hearing g(n) { try { if n { hear h(n - 1); } } uphold Any { note 50; } lastly { note 91; } }";

    /** "by the 13th hearing open in one another". */
    private static void thirteenthHearing() {
        AppealCourt x = Checks.court(DEEP);
        Checks.due("11", x.trial(0, 10, 0, 999), 0);
        Checks.due("begun", x.about(6), 11);
        Checks.due("12", x.trial(0, 11, 0, 999), 0);
        Checks.due("begun", x.about(6), 12);
        Checks.due("NOTES", x.about(4), 6 + 12);
        Checks.due("13", x.trial(0, 12, 0, 999), 3);
        Checks.due("begun", x.about(6), 12);
        Checks.notes("no uphold, no lastly", x, 12, 10, 8, 6, 4, 2);
        Checks.due("rested with", x.about(1), 0);
        x = Checks.court("hearing h() { note 1; hear h(); }");
        Checks.due("for ever", x.trial(0, 0, 0, 5000), 3);
        Checks.due("begun", x.about(6), 12);
        Checks.due("STEPS", x.about(3), 24);
        Checks.due("NOTES", x.about(4), 12);
    }

    /** "(behind its e's)". */
    private static void thirteenthHearingBehindItsEs() {
        AppealCourt x = Checks.court("hearing h(n, k) { if n { hear h(n - 1, k); rest; } try { if k == 1 { hear h(1 / 0, 0); } if k == 2 { hear h(0, ground N); } if k == 3 { hear h(0, 0); } }"
                + " uphold Any X { note ground X; } lastly { note 9; } }");
        Checks.due("no 13th", x.trial(0, 11, 0, 999), 0);
        Checks.due("its first e", x.trial(0, 11, 1, 999), 0);
        Checks.notes("upheld", x, 3, 9);
        Checks.due("its second e", x.trial(0, 11, 2, 999), 0);
        Checks.notes("upheld", x, 1, 9);
        Checks.due("no objection", x.trial(0, 11, 3, 999), 3);
        Checks.notes("ADJOURNED", x);
        Checks.due("the 12th", x.trial(0, 10, 3, 999), 0);
    }

    private static void hearingsOneBehindAnother() {
        AppealCourt x = Checks.court("hearing h(n) { if n { hear h(n - 1); hear g(); hear g(); } } hearing g() {}");
        Checks.due("12 open at most", x.trial(0, 11, 0, 999), 0);
        Checks.due("begun", x.about(6), 12 + 22);
        x = Checks.court("hearing h(n) { try { if n { hear h(n - 1); } raise N; } uphold Any {} if n { hear g(); } } hearing g() { note 1; }");
        Checks.due("also behind what was upheld", x.trial(0, 11, 0, 999), 0);
        Checks.due("NOTES", x.about(4), 11);
        x = Checks.court("hearing h() { try { hear g(10); } uphold Any { hear g(10); } } hearing g(n) { if n { hear g(n - 1); } else { raise N; } }");
        Checks.due("what went out is not open", x.trial(0, 0, 0, 999), 2);
        Checks.due("begun", x.about(6), 23);
    }

    private static final String NOTING = "hearing h(n, k) { while n { note n; n = n - 1; } try { if k == 1 { note 5; } if k == 2 { note N; } if k == 3 { note 1 / 0; } if k == 4 { note N is Any; } }"
            + " uphold Any X { n = ground X; } lastly { n = n + 1; } rest n; }";

    /** "by the 201st NOTE". */
    private static void noteTwoHundredAndOne() {
        AppealCourt x = Checks.court(NOTING);
        for (int k : new int[] {1, 2, 4}) {
            Checks.due("200 NOTES", x.trial(0, 199, k, 999), 0);
            Checks.due("NOTES", x.about(4), 200);
            Checks.due("lastly", x.about(1), 1);
            Checks.due("the 201st", x.trial(0, 200, k, 999), 3);
            Checks.due("NOTES", x.about(4), 200);
            Checks.due("the 200th", x.note(199), 1);
            Checks.due("no lastly", x.about(1), 0);
        }
        Checks.due("200 alone", x.trial(0, 200, 0, 999), 0);
        Checks.due("201 in a row", x.trial(0, 201, 0, 999), 3);
        Checks.due("the 200th", x.note(199), 2);
        Checks.due("STEPS", x.about(3), 602);
    }

    /** "(behind its e)". */
    private static void noteTwoHundredAndOneBehindItsE() {
        AppealCourt x = Checks.court(NOTING);
        Checks.due("its e comes first", x.trial(0, 200, 3, 999), 0);
        Checks.due("upheld, and lastly", x.about(1), 4);
        Checks.due("NOTES", x.about(4), 200);
        Checks.due("made", x.about(7), 1);
    }

    private static final String[] MAKING = {"hold Z = Any(1);", "raise N;", "note ground N;", "note days X;", "note 1 / 0;", "note 1 % 0;", "join X to X;", "join S to X;", "join N to X;", "hold Z = cause N;"};

    private static String making(String st) {
        return "hearing h(n, k) { while n { hold X = Any(n); n = n - 1; } hold S = X; if k == 1 { try { " + st + " note 6; } uphold Any { note 7; } lastly { note 8; } rest 5; }"
                + " if k == 2 { hold X = Any(1); hold S = Any(1) because X; try { " + st + " } uphold Any { note 7; } lastly { note 8; } rest 5; } }";
    }

    /** "by an objection (also one that the court makes itself ..) that would be the 101st made in the trial". */
    private static void objectionOneHundredAndOne() {
        for (String st : MAKING) {
            AppealCourt x = Checks.court(making(st));
            Checks.due("the 100th by " + st, x.trial(0, 97, 2, 999), 0);
            Checks.due("rested with", x.about(1), 5);
            Checks.due("made", x.about(7), 100);
            int refused = st.equals("join X to X;") || st.equals("join S to X;") ? 1 : 0;
            Checks.due("REFUSED", x.about(8), refused);
            Checks.due("the 101st by " + st, x.trial(0, 98, 2, 999), 3);
            Checks.due("made", x.about(7), 200);
            Checks.due("REFUSED is counted", x.about(8), 2 * refused);
            Checks.notes("ADJOURNED by " + st, x);
            Checks.due("rested with", x.about(1), 0);
            Checks.nothingInChain("ADJOURNED by " + st, x, 0);
        }
    }

    /** ".. or the 8,001st in the court's life". */
    private static void objectionEightThousandAndOne() {
        for (String st : MAKING) {
            AppealCourt x = Checks.court(making(st));
            for (int i = 0; i < 79; i++) {
                x.trial(0, 100, 0, 999);
            }
            x.trial(0, 97, 0, 999);
            Checks.due("made", x.about(7), 7997);
            int refused = st.equals("join X to X;") || st.equals("join S to X;") ? 1 : 0;
            Checks.due("the 8,000th by " + st, x.trial(0, 0, 2, 999), 0);
            Checks.due("rested with", x.about(1), 5);
            Checks.due("made", x.about(7), 8000);
            Checks.due("REFUSED", x.about(8), refused);
            Checks.due("the 8,001st", x.trial(0, 1, 0, 999), 3);
            Checks.due("by what the court makes", x.trial(0, 0, 1, 999), 3);
            Checks.notes("ADJOURNED by " + st, x);
            Checks.due("made", x.about(7), 8000);
        }
        refusedAtEightThousand("join X to X;");
        refusedAtEightThousand("join X to none; join X to X;");
    }

    private static void refusedAtEightThousand(String joins) {
        AppealCourt x = Checks.court("hearing h(n, k) { while n { hold X = Any(n); n = n - 1; } if k { try { " + joins + " } uphold Any { note 7; } lastly { note 8; } } }");
        for (int i = 0; i < 79; i++) {
            x.trial(0, 100, 0, 999);
        }
        Checks.due("the 7,901st to 7,999th and the 8,000th", x.trial(0, 99, 1, 999), 0);
        Checks.due("REFUSED", x.about(8), 1);
        x = Checks.court("hearing h(n, k) { while n { hold X = Any(n); n = n - 1; } if k { try { " + joins + " } uphold Any { note 7; } lastly { note 8; } } }");
        x.complain(0, 0, 0);
        for (int i = 0; i < 79; i++) {
            x.trial(0, 100, 0, 999);
        }
        Checks.due("the 8,001st", x.trial(0, 99, 1, 999), 3);
        Checks.due("99 of them in the trial", x.about(7), 8000);
        Checks.due("REFUSED is counted", x.about(8), 1);
        Checks.notes("ADJOURNED", x);
    }

    /** "ADJOURNED, at once and without any lastly". */
    private static void adjournedAtOnce() {
        String[] ways = {"while 1 {}", "hear h();", "while 1 { note 1; }", "while 1 { hold X = Any(1); }", "while 1 { try { raise N; } uphold Party {} }"};
        String[] forms = {"try { W } uphold Any { A } lastly { A }", "try { raise N; } uphold Any { W } uphold Any { A } lastly { A }", "try { try { raise N; } lastly { W A } } uphold Any { A } lastly { A }",
            "try { try { rest 5; } lastly { W A } } lastly { A }", "try { hear g(); A } uphold Any { A } lastly { A }"};
        for (String way : ways) {
            for (String form : forms) {
                String text = "hearing h() { " + form.replace("W", way).replace("A ", "note 99; ") + " note 99; } hearing g() { try { " + way + " note 99; } uphold Any { note 99; } lastly { note 99; } rest 99; }";
                AppealCourt x = Checks.court(text);
                Checks.due("ADJOURNED: " + text, x.trial(0, 0, 0, 5000), 3);
                Checks.due("rested with", x.about(1), 0);
                Checks.due("STRUCK nowhere", x.about(2), -1);
                Checks.nothingInChain("ADJOURNED", x, 0);
                for (int k = 0; k < x.about(4); k++) {
                    Checks.due("a NOTE of " + text, x.note(k) == 99, false);
                }
                Checks.due("the next trial begins anew", x.trial(0, 0, 0, 1), 3);
                Checks.due("STEPS", x.about(3), 1);
            }
        }
    }
}
