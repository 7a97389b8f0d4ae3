/** Promise 7: trial, and III. HEARINGS. */
public final class TrialTest {
    public static void main(String[] args) {
        arguments();
        parameters();
        numbers();
        course();
        objections();
        courtItself();
        joins();
        upholds();
        lastly();
        lastlyInOneAnother();
        hears();
        steps();
        otherLimits();
        wordsOfObjectionsRaised();
        allThatIsOpen();
        nothingIsLeftOver();
        Checks.finish();
    }

    private static void arguments() {
        AppealCourt x = Checks.court("hearing h() { note 1; rest 4; } hearing g() { note 2; rest 5; }");
        Checks.due("RESTED", x.trial(1, 0, 0, 5000), 0);
        int[][] bad = {{2, 5}, {-1, 5}, {Checks.MIN, 5}, {Checks.MAX, 5}, {0, 0}, {0, -1}, {0, 5001}, {0, Checks.MIN}, {0, Checks.MAX}};
        for (int[] b : bad) {
            Checks.due("trial of " + b[0] + " with " + b[1], x.trial(b[0], 0, 0, b[1]), -1);
            Checks.due("what it gave", x.about(0), 0);
            Checks.due("rested with", x.about(1), 5);
            Checks.notes("doing nothing", x, 2);
        }
        Checks.due("the first one", x.trial(0, 0, 0, 2), 0);
        Checks.due("rested with", x.about(1), 4);
        Checks.due("one STEP", x.trial(0, 0, 0, 1), 3);
    }

    private static void parameters() {
        AppealCourt x = Checks.court("hearing zero() { if 0 { let c = 7; let d = 7; } note c; note d; }"
                + " hearing one(a) { if 0 { let c = 5; } note a; note c; }"
                + " hearing two(a, b) { if 0 { let c = 5; } note a; note b; note c; }"
                + " hearing four(a, b, c, d) { note a; note b; note c; note d; }");
        x.trial(0, 8, 9, 50);
        Checks.notes("no parameter", x, 0, 0);
        x.trial(1, 8, 9, 50);
        Checks.notes("one", x, 8, 0);
        x.trial(2, Checks.MIN, Checks.MAX, 50);
        Checks.notes("two", x, Checks.MIN, Checks.MAX, 0);
        x.trial(3, 8, 9, 50);
        Checks.notes("four", x, 8, 9, 0, 0);
    }

    private static void numbers() {
        Checks.tried(0, "note a + b * 3 - 1; note (a + b) * 3; note 10 - 4 - 3; note 100 / 7 / 2; note 2 * 7 % 4; note 7 - 2 * 3;", 12, 27, 3, 7, 2, 1);
        Checks.tried(0, "note -7 / 2; note 7 / -2; note -7 % 2; note 7 % -2; note -7 / -2; note -(7 % 4); note 7 / 1; note 6 % 1; note 0 / 5;", -3, -3, -1, 1, 3, -3, 7, 0, 0);
        Checks.tried(0, "note 1 < 2; note 2 < 2; note 3 < 2; note 2 == 2; note 2 == 3; note 2 != 2; note 2 != 3; note 1 + 1 < 3;", 1, 0, 0, 1, 0, 0, 1, 1);
        Checks.tried(0, "note 7 < 2 * 4; note 7 < 2 + 6; note 7 == 2 * 3 + 1; note 7 != 9 - 2; note 8 - 1 * 2 < 6 + 6 / 6;", 1, 1, 1, 0, 1);
        Checks.tried(0, "note -a; note - - a; note -a * b; note a - -b; note a * -b; note (1 < 2) + (2 < 1);", -7, 7, -14, 9, -14, 1);
        Checks.tried(0, "let m = -999999999 * 2 - 147483650; note m; note m - 1; note -m; note m / -1; note m % -1; note m * m; note (m < 0) + (m - 1 < 0);",
                Checks.MIN, Checks.MAX, Checks.MIN, Checks.MIN, 0, 0, 1);
        Checks.tried(0, "note 999999999 * 999999999;", 999999999 * 999999999);
    }

    private static void course() {
        Checks.tried(0, "if a { note 1; } else { note 2; } if 0 { note 3; } else { note 4; } if -1 { note 5; } if 0 { note 6; }", 1, 4, 5);
        Checks.tried(0, "while b { note b; b = b - 1; } note b; while 0 { note 9; }", 2, 1, 0);
        Checks.due("rest ends it", Checks.tried(0, "note 1; if a { while 1 { rest a * 2; } } note 2;", 1).about(1), 14);
        Checks.due("rest alone", Checks.tried(0, "rest; note 1;").about(1), 0);
        Checks.due("its end", Checks.tried(0, "a = 5;").about(1), 0);
        Checks.tried(0, "let c = a; a = 1; note c; note a; let d = c + a; note d;", 7, 1, 8);
    }

    private static void objections() {
        Checks.tried(0, "hold X = Late(4, 6); note ground X; note days X; note weight X; note many X; note serial X; note X;", 4, 6, 20, 1, 1, 1);
        Checks.tried(0, "hold X = Any(4); hold Y = Form(4); hold Z = Party(4); note weight X; note weight Y; note weight Z;", 4, 14, 28);
        Checks.tried(0, "hold X = Merit(4); hold Y = Bias(4); hold Z = Proof(4); note weight X; note weight Y; note weight Z;", 12, 7, 12);
        Checks.tried(0, "hold X = Merit(5); hold Y = Proof(4) because X; hold Z = Proof(2) because Y; hold W = Merit(1) because Y; note weight Y; note weight Z; note weight W;", 17, 10, 3);
        Checks.tried(0, "hold X = Late(-3); note days X; note weight X; hold X = Late(1, -2); note days X; note X;", 0, 7, -2, 2);
        Checks.tried(0, "hold X = Any(1); hold Y = Any(2) because X; hold Z = Any(3) because Y; note many Z; hold W = cause Z; note W; hold W = cause W; note W; hold W = cause W; note W;", 3, 2, 1, 0);
        Checks.tried(0, "hold X = Any(1); hold Y = X; note Y; note X same Y; hold X = none; note X; note Y; note X same Y; note X same Z;", 1, 1, 0, 1, 0, 1);
        Checks.tried(0, "hold X = Any(1); hold Y = Any(1); note X same Y; hold X = Any(2) because X; note many X; hold Y = cause X; note Y;", 0, 2, 1);
        isEvery();
        Checks.tried(0, "hold X = Proof(3); hold Y = Any(9); join X to Y; note weight X; note many X; note many Y;", 18, 2, 1);
        Checks.due("e's from the left", Checks.tried(2, "hold X = Late(1 / 0, ground Y);").chain(0, 0), 6);
        Checks.due("e's from the left", Checks.tried(2, "hold X = Late(ground Y, 1 / 0);").chain(0, 0), 3);
        Checks.due("e's from the left", Checks.tried(2, "note 1 / 0 + ground Y;").chain(0, 0), 6);
        Checks.due("e's from the left", Checks.tried(2, "note ground Y / 0;").chain(0, 0), 3);
    }

    private static void isEvery() {
        String[] kinds = {"Any", "Form", "Late", "Party", "Merit", "Bias", "Proof"};
        String[] is = {"1000000", "1100000", "1110000", "1101000", "1000100", "1000110", "1000101"};
        for (int k = 0; k < 7; k++) {
            StringBuilder asked = new StringBuilder("hold X = " + kinds[k] + "(1);");
            int[] want = new int[8];
            for (int o = 0; o < 7; o++) {
                asked.append(" note X is ").append(kinds[o]).append(";");
                want[o] = is[k].charAt(o) - '0';
            }
            Checks.tried(0, asked + " note Y is Any;", want);
        }
    }

    private static void courtItself() {
        String[] ofNone = {"raise X;", "hold Y = cause X;", "note ground X;", "note days X;", "note weight X;", "note many X;", "note serial X;",
            "join X to Y;", "join X to none;", "join X to X;"};
        for (String st : ofNone) {
            AppealCourt x = Checks.tried(2, "hold Y = Any(5); " + st + " note 1;");
            Checks.inChain(st, x, 0, 3, 1, 0, 2, -1, 0, 22);
            Checks.nothingInChain(st, x, 1);
            Checks.due("joins REFUSED", x.about(8), 0);
        }
        AppealCourt x = Checks.tried(2, "hold X = Form(9); note days X;");
        Checks.inChain("days of a FORM", x, 0, 1, 2, 0, 2, -1, 0, 12);
        Checks.inChain("days of an ANY", Checks.tried(2, "hold X = Any(9); note days X;"), 0, 1, 2);
        Checks.inChain("days of a PARTY", Checks.tried(2, "hold X = Party(9); note days X;"), 0, 1, 2);
        Checks.inChain("/ by 0", Checks.tried(2, "note a / 0;"), 0, 6, 3, 0, 1, -1, 0, 9);
        Checks.inChain("% by 0", Checks.tried(2, "note a % (b - 2);"), 0, 6, 3, 0, 1, -1, 0, 9);
        Checks.tried(0, "try { a = 1 / 0; } uphold Any X { note X; } note a; try { hold Z = cause Y; } uphold Any { note Z; }", 1, 7, 0);
        Checks.tried(0, "hold X = none; note X is Any; note X; note X same Y; hold Y = Any(1) because X; note many Y; hold Z = X; note Z;", 0, 0, 1, 1, 0);
    }

    private static void joins() {
        AppealCourt x = Checks.tried(2, "hold X = Any(1); hold Y = Merit(2); join X to Y; note X same Y; join X to none;", 0);
        Checks.inChain("SETTLED by a join", x, 0, 2, 4, 0, 3, -1, 1, 14);
        Checks.inChain("because of the first", x, 1, 0, 1, 0, 1, 27, 1, 1);
        Checks.inChain("its CAUSE", x, 2, 4, 2, 0, 2, 44, 0, 6);
        Checks.due("REFUSED", x.about(8), 1);
        x = Checks.tried(2, "hold X = Any(1); join X to X;");
        Checks.inChain("its own CAUSE", x, 0, 5, 5, 0, 2, -1, 1, 10);
        Checks.inChain("because of it", x, 1, 0, 1, 0, 1, 27, 0, 1);
        Checks.due("REFUSED", x.about(8), 1);
        Checks.inChain("SETTLED comes first", Checks.tried(2, "hold X = Any(1) because none; join X to X;"), 0, 2, 4);
        Checks.inChain("because none", Checks.tried(2, "hold X = Any(1) because none; hold Y = Any(1); join X to Y;"), 0, 2, 4);
        Checks.inChain("because of what is none", Checks.tried(2, "hold X = Any(1) because Z; hold Y = Any(1); join X to Y;"), 0, 2, 4);
        Checks.inChain("joined to none", Checks.tried(2, "hold X = Any(1); join X to none; join X to X;"), 0, 2, 4);
        Checks.tried(0, "hold X = Any(1); join X to none; note many X; hold Y = Any(1); join Y to Z; note many Y;", 1, 1);
        Checks.tried(0, "hold X = Any(1); hold Y = Any(2); join X to Y; join Y to X; note many X; note many Y; hold Z = Any(3) because X; note many Z;", 50, 50, 50);
        Checks.tried(0, "hold X = Any(1); try { join X to X; } uphold Bias B { note many B; join X to B; } note many X; try { join B to none; } uphold Late { note 3; }", 2, 50, 3);
        Checks.tried(0, "try { note 1 / 0; } uphold Any P { hold X = Any(4); join P to X; note weight P; }", 13);
        Checks.tried(0, "hold X = Any(1); let c = 48; while c { hold X = Any(1) because X; c = c - 1; } note many X; hold X = Any(1) because X; note many X;"
                + " hold X = Any(1) because X; note many X;", 49, 50, 50);
    }

    private static void upholds() {
        Checks.tried(0, "hold X = Late(1); try { note 1; raise X; note 2; } uphold Party { note 3; } uphold Form Y { note 4; note Y same X; } uphold Late { note 5; } note 6; note Y;", 1, 4, 1, 6, 1);
        Checks.tried(2, "hold X = Form(1); try { raise X; } uphold Late { note 1; } uphold Merit { note 2; } note 3;");
        Checks.tried(0, "try { note 1; } uphold Any Y { note 2; } note Y;", 1, 0);
        Checks.inChain("not upheld there", Checks.tried(2, "hold X = Form(1); hold Z = Merit(2); try { raise X; } uphold Form { raise Z; } uphold Any { note 2; }"), 0, 4);
        Checks.tried(0, "hold X = Form(1); hold Z = Merit(2); try { try { raise X; } uphold Form { raise Z; } uphold Merit { note 2; } } uphold Merit Y { note 3; note Y; }", 3, 2);
        Checks.tried(0, "hold X = Form(1); try { try { raise X; } uphold Merit { note 1; } note 2; } uphold Any Y { note Y; }", 1);
        Checks.tried(0, "hold X = Form(1); try { try { raise X; } uphold Any { note 1; raise X; } } uphold Any { note 2; try { raise X; } uphold Any { note 3; } }", 1, 2, 3);
        Checks.tried(2, "hold X = Form(1); try { note 1; } uphold Any { note 2; } raise X;", 1);
        Checks.tried(0, "let c = 3; while c { try { hold X = Any(c); raise X; } uphold Any X { note ground X; } c = c - 1; }", 3, 2, 1);
        Checks.tried(0, "try { a = 5 * (1 + 2 * (ground X)); } uphold Any { note a; } note 2 + 3;", 7, 5);
        Checks.due("rest in a try", Checks.tried(0, "try { rest 3; } uphold Any { note 1; } note 2;").about(1), 3);
        Checks.due("rest in an uphold", Checks.tried(0, "try { raise X; } uphold Any { rest 4; } note 2;").about(1), 4);
    }

    private static void lastly() {
        Checks.tried(0, "try { note 1; } lastly { note 2; } note 3;", 1, 2, 3);
        Checks.tried(0, "try { raise X; } uphold Any { note 1; } lastly { note 2; } note 3;", 1, 2, 3);
        Checks.tried(2, "try { raise X; } lastly { note 2; } note 3;", 2);
        Checks.tried(2, "try { raise X; } uphold Merit { note 1; } lastly { note 2; } note 3;", 2);
        Checks.tried(2, "try { raise X; } uphold Any Y { note 1; raise Y; } lastly { note 2; } note 3;", 1, 2);
        Checks.due("rest goes on", Checks.tried(0, "try { rest a; } lastly { note 2; a = 9; } note 3;", 2).about(1), 7);
        Checks.due("rest of an uphold", Checks.tried(0, "try { raise X; } uphold Any { rest 6; } lastly { note 2; } note 3;", 2).about(1), 6);
        Checks.due("rest in place of the end", Checks.tried(0, "try { note 1; } lastly { rest 5; } note 3;", 1).about(1), 5);
        Checks.due("rest in place of rest", Checks.tried(0, "try { rest 4; } lastly { rest 5; } note 3;").about(1), 5);
        Checks.due("rest in place of an objection", Checks.tried(0, "try { raise X; } lastly { rest 5; } note 3;").about(1), 5);
        Checks.due("an objection in place of rest", Checks.tried(2, "hold Y = Merit(1); try { rest 4; } lastly { raise Y; } note 3;").chain(0, 0), 4);
        Checks.due("an objection in place of another", Checks.tried(2, "hold Y = Merit(1); try { raise X; } lastly { raise Y; } note 3;").chain(0, 0), 4);
        Checks.tried(2, "hold Y = Merit(1); try { note 1; } uphold Any { note 2; } lastly { raise Y; }", 1);
        Checks.due("an objection of its own", Checks.tried(2, "hold Y = Merit(1); try { note 1; } lastly { raise Y; }", 1).chain(0, 3), 1);
    }

    private static void lastlyInOneAnother() {
        Checks.tried(0, "try { try { raise X; } lastly { note 1; } note 2; } uphold Any { note 3; } lastly { note 4; }", 1, 3, 4);
        Checks.due("rest through all", Checks.tried(0, "try { try { try { rest 1; } lastly { note 1; } } uphold Any { note 9; } } lastly { note 2; } note 3;", 1, 2).about(1), 1);
        Checks.tried(0, "try { rest 1; } lastly { try { raise X; } uphold Any { note 1; } lastly { note 2; } note 3; } note 4;", 1, 2, 3);
        Checks.tried(2, "try { raise X; } lastly { try { note 1; } lastly { note 2; } note 3; } note 4;", 1, 2, 3);
        Checks.due("a rest gone", Checks.tried(0, "try { try { rest 1; } lastly { raise X; } } uphold Any { note 1; } note 2; rest 8;", 1, 2).about(1), 8);
        Checks.due("an objection gone", Checks.tried(0, "while 1 { try { raise X; } lastly { try { rest 2; } lastly { note 1; rest 3; } } }", 1).about(1), 3);
        Checks.tried(0, "let c = 3; while c { c = c - 1; try { try { raise X; } lastly { note c; } } uphold Party { note 10 + c; } }", 2, 12, 1, 11, 0, 10);
        Checks.tried(2, Checks.times(18, "try {") + "raise X;" + Checks.times(18, "} lastly { note 1; }"), 1, 1, 1, 1, 1, 1, 1, 1, 1, 1, 1, 1, 1, 1, 1, 1, 1, 1);
    }

    private static void hears() {
        AppealCourt x = Checks.court("hearing h(a) { let c = 1; hear g(a, c + 1) into c; note c; hear g(1, 1); note c; hear k() into c; note c; note Y; rest 2; }"
                + " hearing g(a, b) { hold Y = Any(1); a = a * 10 + b; rest a; } hearing k() { note 6; }");
        Checks.due("RESTED", x.trial(0, 4, 0, 99), 0);
        Checks.notes("hears", x, 42, 42, 6, 0, 0);
        Checks.due("hearings", x.about(6), 4);
        Checks.due("rested with", x.about(1), 2);
        x = Checks.court("hearing h() { try { hear g(3); note 1; } uphold Party X { note ground X; note X is Form; } lastly { note 5; } note Y; }"
                + " hearing g(n) { try { if n { hear g(n - 1); } else { raise X; } } lastly { note 10 + n; } }");
        Checks.due("RESTED", x.trial(0, 0, 0, 99), 0);
        Checks.notes("out of hearings", x, 10, 11, 12, 13, 1, 1, 5, 0);
        x = Checks.court("hearing h(n) { let c = 0; if 1 < n { hear h(n - 1) into c; hear h(n - 2) into n; } rest c + n; }");
        Checks.due("in one another", x.trial(0, 9, 0, 5000), 0);
        Checks.due("rested with", x.about(1), 34);
        x = Checks.court("hearing h() { let c = 5; try { hear g() into c; } uphold Any { note c; } hear k(9, 8, 7, 6) into c; note c; }"
                + " hearing g() { hold X = Any(2); raise X; } hearing k(a, b, c, d) { note a; note b; note c; note d; note X; rest d - a; }");
        Checks.due("RESTED", x.trial(0, 0, 0, 99), 0);
        Checks.notes("parameters", x, 5, 9, 8, 7, 6, 0, -3);
        x = Checks.court("hearing h() { try { try { hear g(); } lastly { note 1; } } lastly { note 2; } note 3; rest 7; } hearing g() { try { rest 4; } lastly { note 0; } }");
        Checks.due("a rest ends one hearing", x.trial(0, 0, 0, 99), 0);
        Checks.notes("and no try of another", x, 0, 1, 2, 3);
        Checks.due("rested with", x.about(1), 7);
        x = Checks.court("hearing h() { note X; hold X = Any(1); hear g(); hear g(); note X; } hearing g() { note X; hold X = Any(1);"
                + " if 0 { let c = 1; let d = 1; } note c; note d; c = 8; d = 9; }");
        x.trial(0, 0, 0, 99);
        Checks.notes("each has its own", x, 0, 0, 0, 0, 0, 0, 0, 1);
        x.trial(1, 0, 0, 99);
        Checks.notes("in the next trial, too", x, 0, 0, 0);
    }

    private static void steps() {
        Object[][] all = {{"", 0}, {"note 1;", 1}, {"let c = 1; c = 2; hold X = none; note X; hold X = Any(1); join X to none; rest;", 7},
            {"if 0 { note 1; }", 1}, {"if 1 { note 1; }", 2}, {"if 0 {} else { note 1; note 2; }", 3}, {"while 0 {}", 1}, {"while b { b = b - 1; }", 5},
            {"while b { b = b - 1; if b {} }", 7}, {"try { note 1; } lastly { note 1; }", 3}, {"try { raise X; } uphold Any { note 1; } lastly { note 1; }", 4},
            {"try { note 1; } uphold Any { note 1; }", 2}, {"try {} uphold Any {} lastly {}", 1}, {"while 1 { rest; }", 2}, {"rest; note 1;", 1}};
        for (Object[] one : all) {
            int n = (Integer) one[1];
            AppealCourt x = Checks.court("hearing h(a, b) { " + one[0] + " }");
            Checks.due("STEPS of " + one[0], x.trial(0, 7, 2, Math.max(n, 1)), 0);
            Checks.due("STEPS of " + one[0], x.about(3), n);
            if (n > 1) {
                Checks.due("one too many in " + one[0], x.trial(0, 7, 2, n - 1), 3);
                Checks.due("STEPS then", x.about(3), n - 1);
                Checks.due("rested with", x.about(1), 0);
                Checks.nothingInChain("ADJOURNED", x, 0);
            }
        }
        AppealCourt x = Checks.court("hearing h() { try { while 1 { note 1; } } uphold Any { note 2; } lastly { note 3; } }");
        Checks.due("without any lastly", x.trial(0, 0, 0, 6), 3);
        Checks.notes("two of them", x, 1, 1);
        x = Checks.court("hearing h() { while 1 {} }");
        Checks.due("5,000", x.trial(0, 0, 0, 5000), 3);
        Checks.due("STEPS", x.about(3), 5000);
        x = Checks.court("hearing h() { try { while 1 / 0 {} } uphold Any { note 1; } }");
        x.trial(0, 0, 0, 2);
        Checks.due("a while's e behind its STEP", x.about(7), 1);
        Checks.due("ahead of the e", x.trial(0, 0, 0, 1), 3);
        Checks.due("it is not asked", x.about(7), 1);
    }

    private static void otherLimits() {
        String deep = "hearing h(n) { note n; if n { try { hear h(n - 1); } uphold Any { note 50; } lastly { note 99; } } }";
        AppealCourt x = Checks.court(deep);
        Checks.due("12 hearings", x.trial(0, 11, 0, 999), 0);
        Checks.due("begun", x.about(6), 12);
        Checks.due("the 13th", x.trial(0, 12, 0, 999), 3);
        Checks.due("begun", x.about(6), 12);
        Checks.due("without any lastly", x.about(4), 12);
        x = Checks.court("hearing h(n) { if n == 0 { hear h(1 / n); } hear h(n - 1); }");
        Checks.due("behind its e's", x.trial(0, 11, 0, 999), 2);
        Checks.due("the objection", x.chain(0, 0), 6);
        x = Checks.court("hearing h(n, k) { while n { note n; n = n - 1; } try { if k { note 1 / 0; } note X; } uphold Any { note 7; } lastly { note 8; } }");
        Checks.due("200 NOTES", x.trial(0, 198, 0, 999), 0);
        Checks.due("NOTES", x.about(4), 200);
        Checks.due("the 201st", x.trial(0, 199, 0, 999), 3);
        Checks.due("NOTES", x.about(4), 200);
        Checks.due("the last", x.note(199), 0);
        Checks.due("an OBJECT's, too", x.trial(0, 200, 0, 999), 3);
        Checks.due("STEPS", x.about(3), 604);
        Checks.due("behind its e", x.trial(0, 200, 1, 999), 3);
        Checks.due("STEPS", x.about(3), 605);
        x = Checks.court("hearing h(n, k) { while n { hold X = Any(n); n = n - 1; } hold Y = X; try { if k == 1 { note 1 / 0; } if k == 2 { join X to X; }"
                + " if k == 3 { hold X = Any(1); } } uphold Any { note 7; } lastly { note 8; } }");
        for (int k = 1; k <= 3; k++) {
            int made = x.about(7);
            int refused = x.about(8);
            Checks.due("100 objections", x.trial(0, 99, k, 999), 0);
            Checks.due("made", x.about(7), made + 100);
            Checks.due("the 101st", x.trial(0, 100, k, 999), 3);
            Checks.due("made", x.about(7), made + 200);
            Checks.due("NOTES", x.about(4), 0);
            Checks.due("REFUSED is counted", x.about(8), refused + (k == 2 ? 2 : 0));
        }
        Checks.due("100 of them are no matter", x.trial(0, 100, 0, 999), 0);
        x.complain(0, 0, 0);
        Checks.due("nor a COMPLAINT", x.trial(0, 99, 3, 999), 0);
    }

    /** 12 hearings with 12 NAMES, 8 OBJECTS and 17 tries each. */
    private static void allThatIsOpen() {
        StringBuilder text = new StringBuilder("hearing h(n) { ");
        for (char c = 'a'; c <= 'k'; c++) {
            text.append("let ").append(c).append(" = n * 12 + ").append(c - 'a').append("; ");
        }
        for (char c = 'A'; c <= 'H'; c++) {
            text.append("hold ").append(c).append(" = Any(n * 8 + ").append(c - 'A').append("); ");
        }
        text.append("if n { hear h(n - 1); } note a + b + c + d + e + f + g + h + i + j + k;");
        text.append(" note ground A + ground B + ground C + ground D + ground E + ground F + ground G + ground H; }");
        AppealCourt x = Checks.court(text.toString());
        Checks.due("RESTED", x.trial(0, 11, 0, 5000), 0);
        for (int n = 0; n < 12; n++) {
            Checks.due("NAMES of " + n, x.note(2 * n), 11 * 12 * n + 55);
            Checks.due("OBJECTS of " + n, x.note(2 * n + 1), 8 * 8 * n + 28);
        }
        x = Checks.court("hearing h(n) { let c = 0; " + Checks.times(17, "try{") + "if n { hear h(n - 1); } else { raise X; }"
                + Checks.times(16, "}lastly{c=c+1;}") + "}lastly{note c;} } hearing g() { try { hear h(10); } uphold Party Y { note ground Y; } }");
        Checks.due("UPHELD", x.trial(0, 11, 0, 5000), 2);
        Checks.notes("each lastly", x, 16, 16, 16, 16, 16, 16, 16, 16, 16, 16, 16, 16);
        Checks.due("STEPS", x.about(3), 12 * (1 + 17 + 2 + 17));
        Checks.due("RESTED", x.trial(1, 0, 0, 5000), 0);
        Checks.notes("each lastly", x, 16, 16, 16, 16, 16, 16, 16, 16, 16, 16, 16, 1);
    }

    private static void nothingIsLeftOver() {
        Checks.due("behind many upholds", Checks.tried(0, "let c = 90; while c { try { a = 1 + 2 * (3 + 4 * ground X); } uphold Any { c = c - 1; } } rest 1 + 2 * (3 + 4 * 5);").about(1), 47);
        Checks.due("behind many lastlies", Checks.tried(0, "let c = 90; while c { try { try { a = 1 + 2 * (3 + 4 * ground X); } lastly { c = c - 1; } } uphold Any {} }"
                + " rest 1 + 2 * (3 + 4 * 5);").about(1), 47);
        AppealCourt x = Checks.court("hearing h() { let c = 300; while c { hear g(); c = c - 1; } rest 1 + 2 * (3 + 4 * 5); } hearing g() { rest 6; }");
        Checks.due("behind many hears", x.trial(0, 0, 0, 5000), 0);
        Checks.due("rested with", x.about(1), 47);
        x = Checks.court("hearing h(n) { while n { hold X = Any(1); n = n - 1; } try { note " + Checks.times(17, "1 + 1 * (") + "ground Y" + Checks.times(17, ")")
                + "; } uphold Party { note 5; rest 1 + 2 * (3 + 4 * 5); } }");
        for (int i = 0; i < 9; i++) {
            Checks.due("ADJOURNED in the middle", x.trial(0, 100, 0, 999), 3);
        }
        Checks.due("behind that", x.trial(0, 0, 0, 999), 0);
        Checks.due("rested with", x.about(1), 47);
        Checks.notes("upheld", x, 5);
        x = Checks.court("hearing h(n) { if n { try { while 1 {} } uphold Any { note 1; } lastly { note 2; } } hold X = Any(1); raise X; }");
        Checks.due("ADJOURNED in a try", x.trial(0, 1, 0, 9), 3);
        Checks.due("no try is open any more", x.trial(0, 0, 0, 9), 2);
        Checks.notes("none of its blocks", x);
    }

    private static void wordsOfObjectionsRaised() {
        AppealCourt x = Checks.court("hearing h(a) { hold X = Any(1); if a { hold Y = X; raise Y; } raise X; }");
        x.trial(0, 1, 0, 99);
        Checks.due("the objection itself", x.chain(0, 3), 1);
        Checks.due("nothing more is made", x.about(7), 1);
        x.trial(0, 0, 0, 99);
        Checks.due("SERIALS go on", x.chain(0, 3), 2);
    }
}
