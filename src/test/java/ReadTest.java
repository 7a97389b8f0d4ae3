/** Promise 3: read, and II. THE TEXT. */
public final class ReadTest {
    public static void main(String[] args) {
        arguments();
        whatStays();
        tokens();
        heads();
        statements();
        expressions();
        openInOneAnother();
        fault2();
        fault3();
        fault4();
        whichFault();
        longTexts();
        Checks.finish();
    }

    private static String h(String statements) {
        return "hearing h(a, b) { " + statements + " }";
    }

    private static void arguments() {
        AppealCourt x = new AppealCourt();
        Checks.due("below 0", x.read(-1), -1);
        Checks.due("the least", x.read(Checks.MIN), -1);
        Checks.due("more than there are", x.read(1), -1);
        Checks.due("fault ahead of any", x.fault(0), -1);
        Checks.due("the empty text", x.read(0), 0);
        Checks.due("has no fault", x.fault(0), 0);
        Checks.due("and no hearing", x.about(9), 0);
        Checks.feed(x, "hearing h() {}!!!!!!");
        Checks.due("the first bytes alone", x.read(14), 0);
        Checks.due("one hearing", x.about(9), 1);
        Checks.due("the empty text again", x.read(0), 0);
        Checks.due("no hearing again", x.about(9), 0);
    }

    private static void whatStays() {
        AppealCourt x = Checks.court("hearing h() { note 5; hold X = Form(3); raise X; } hearing g() {}");
        x.policy(2, 1, 1, 0);
        x.complain(1, 4, 9);
        x.trial(0, 0, 0, 50);
        Checks.due("a fault", Checks.read(x, "hearing h( {}"), 1);
        Checks.due("the text stays", x.about(9), 2);
        Checks.due("its hearing is still tried", x.trial(0, 0, 0, 50), 1);
        Checks.due("another text", Checks.read(x, "hearing k() { rest 8; }"), 0);
        Checks.due("hearings", x.about(9), 1);
        Checks.due("the latest trial stays", x.about(0), 1);
        Checks.due("its instance", x.about(2), 2);
        Checks.due("its NOTES", x.note(0), 5);
        Checks.due("its CHAIN", x.chain(0, 1), 3);
        Checks.due("COMPLAINTS", x.complaint(1, 0, 1), 9);
        Checks.due("what was made", x.about(7), 3);
        Checks.due("trial of the new text", x.trial(0, 0, 0, 50), 0);
        Checks.due("rested with", x.about(1), 8);
        Checks.read(x, "hearing k() { hold X = Late(1); raise X; }");
        Checks.due("policies", x.trial(0, 0, 0, 50), 1);
    }

    private static void tokens() {
        Checks.good("\t\r\n hearing\nh\t(\r)\n{\t}\n");
        Checks.good("hearing h(){note 1;note-1;note 007;note 999999999;hold X=Any(1);}");
        Checks.good("hearing abcdefghij(a1B2c3D4e5, hearings, anyForm, x){ hold Abcdefghi9 = none; hold ANY = none; hold Anyone = none; }");
        Checks.faulty(1, "hearing ^abcdefghijk() {}");
        Checks.faulty(1, h("hold ^Abcdefghijk = none;"));
        Checks.faulty(1, h("note ^1234567890;"));
        Checks.faulty(1, h("note ^0000000001;"));
        Checks.faulty(1, h("note ^1a;"));
        Checks.faulty(1, h("note ^12X;"));
        Checks.faulty(1, h("note ^1234567890a;"));
        for (char c : "!\"#$&'.:>?@[\\]_`|~\u0000\u0008\u000b\u000c\u000e\u001f\u007f\u0080\u00e4\u00ff".toCharArray()) {
            Checks.faulty(1, h("note 1 ^" + c + " 2;"));
            Checks.faulty(1, h("note a^" + c + "b;"));
        }
        Checks.faulty(1, h("note a ^= = b;"));
        Checks.faulty(1, h("note a ^! = b;"));
        Checks.faulty(1, h("note a ==^= b;"));
        Checks.faulty(1, h("note a <^= b;"));
        Checks.faulty(1, h("note a !=^= b;"));
        Checks.faulty(1, h("a ^== b;"));
        Checks.faulty(1, h("leta ^1 = 2;"));
        for (String word : ("hearing let hold none cause because raise join to note hear into rest if else while try uphold lastly"
                + " ground days weight many serial is same").split(" ")) {
            Checks.faulty(1, "hearing ^" + word + "() {}");
            Checks.faulty(1, "hearing h(^" + word + ") {}");
            Checks.good("hearing " + word + "1() { let " + word + "X = 1; }");
        }
        for (String word : "Any Form Late Party Merit Bias Proof".split(" ")) {
            Checks.faulty(1, h("raise ^" + word + ";"));
            Checks.good(h("raise " + word + "1;"));
        }
        Checks.faulty(1, "hearing ^H() {}");
        Checks.good(h("let b123456789 = 1; let c123456789 = 1; let d123456789 = 1; let x0 = 1; let x9 = 1; let xA = 1; let xZ = 1; let xa = 1; let xz = 1; let x = 1;"));
        Checks.good(h("hold B123456789 = C123456789; hold X0 = X9; hold XA = XZ; hold Xa = Xz;"));
        AppealCourt x = new AppealCourt();
        Checks.feed(x, "hearing h(a) { a == ");
        Checks.due("a sign cut off by the end", x.read(18), 1);
        Checks.due("goes on until there", x.fault(1), 18);
        Checks.faulty(1, h("raise ^x;"));
    }

    private static void heads() {
        Checks.faulty(1, "^x");
        Checks.faulty(1, "^!");
        Checks.faulty(1, "^}");
        Checks.faulty(1, "  ^hear");
        Checks.faulty(1, "hearing^");
        Checks.faulty(1, "hearing   ^");
        Checks.faulty(1, "hearing h^");
        Checks.faulty(1, "hearing h ^{}");
        Checks.faulty(1, "hearing h(^");
        Checks.faulty(1, "hearing h(^,a) {}");
        Checks.faulty(1, "hearing h(a ^b) {}");
        Checks.faulty(1, "hearing h(a,^) {}");
        Checks.faulty(1, "hearing h(a,^1) {}");
        Checks.faulty(1, "hearing h(^X) {}");
        Checks.faulty(1, "hearing h()^");
        Checks.faulty(1, "hearing h() ^;");
        Checks.faulty(1, "hearing h() {^");
        Checks.faulty(1, "hearing h() { \n ^");
        Checks.faulty(1, "hearing h() {} ^{}");
        Checks.faulty(1, "hearing h() {}^}");
        Checks.good("hearing h(){}hearing g(){}");
    }

    private static void statements() {
        Checks.good(h("let c = a; c = b; hold X = Y; hold X = none; hold X = cause Y; hold X = Any(1); hold X = Late(1);"
                + " hold X = Late(1, 2) because none; hold X = Bias(a) because Y; raise X; join X to Y; join X to none; note a; note X;"
                + " hear h(1, 2); hear h(1, 2) into a; rest; rest a; if a {} if a {} else {} while a {} try {} uphold Any {}"
                + " try {} uphold Any X {} uphold Form {} lastly {} try {} lastly {}"));
        Checks.faulty(1, h("let ^X = 1;"));
        Checks.faulty(1, h("let c ^1;"));
        Checks.faulty(1, h("let c = ^;"));
        Checks.faulty(1, h("let c = 1 ^}"));
        Checks.faulty(1, h("^X = Y;"));
        Checks.faulty(1, h("a ^;"));
        Checks.faulty(1, h("hold ^a = Y;"));
        Checks.faulty(1, h("hold X ^Y;"));
        Checks.faulty(1, h("hold X = ^a;"));
        Checks.faulty(1, h("hold X = ^1;"));
        Checks.faulty(1, h("hold X = cause ^none;"));
        Checks.faulty(1, h("hold X = Y ^because Z;"));
        Checks.faulty(1, h("hold X = none ^because Z;"));
        Checks.faulty(1, h("hold X = Any ^;"));
        Checks.faulty(1, h("hold X = Any(^);"));
        for (String kind : "Any Form Party Merit Bias Proof".split(" ")) {
            Checks.faulty(1, h("hold X = " + kind + "(1^, 2);"));
        }
        Checks.faulty(1, h("hold X = Late(1, 2^, 3);"));
        Checks.faulty(1, h("hold X = Late(1,^);"));
        Checks.faulty(1, h("hold X = Any(1) because ^1;"));
        Checks.faulty(1, h("hold X = Any(1) because ^;"));
        Checks.faulty(1, h("raise ^none;"));
        Checks.faulty(1, h("join ^none to X;"));
        Checks.faulty(1, h("join X ^Y;"));
        Checks.faulty(1, h("join X to ^cause;"));
        Checks.faulty(1, h("note ^;"));
        Checks.faulty(1, h("note ^none;"));
        Checks.faulty(1, h("note X ^+ 1;"));
        Checks.faulty(1, h("note (X^);"));
        Checks.faulty(1, h("note ^Any;"));
        Checks.faulty(1, h("hear ^X();"));
        Checks.faulty(1, h("hear h^;"));
        Checks.faulty(1, h("hear h(1 ^2);"));
        Checks.faulty(1, h("hear h(1,^);"));
        Checks.faulty(1, h("hear h(^,);"));
        Checks.faulty(1, h("hear h(X^);"));
        Checks.faulty(1, h("hear h(1, 2) into ^X;"));
        Checks.faulty(1, h("hear h(1, 2) ^a;"));
        Checks.faulty(1, h("rest X^;"));
        Checks.faulty(1, h("rest 1 ^2;"));
        Checks.faulty(1, h("if ^{}"));
        Checks.faulty(1, h("if a ^;"));
        Checks.faulty(1, h("if a {} else ^if b {}"));
        Checks.faulty(1, h("if a {} else {} ^else {}"));
        Checks.faulty(1, h("^else {}"));
        Checks.faulty(1, h("while ^{}"));
        Checks.faulty(1, h("while a {} ^else {}"));
        Checks.faulty(1, h("try ^a;"));
        Checks.faulty(1, h("try {} ^note 1;"));
        Checks.faulty(1, "hearing h() { try {} ^}");
        Checks.faulty(1, h("try {} uphold ^{}"));
        Checks.faulty(1, h("try {} uphold ^X {}"));
        Checks.faulty(1, h("try {} uphold Any ^Form {}"));
        Checks.faulty(1, h("try {} uphold Any X ^Y {}"));
        Checks.faulty(1, h("try {} lastly {} ^lastly {}"));
        Checks.faulty(1, h("try {} lastly {} ^uphold Any {}"));
        Checks.faulty(1, h("try {} lastly ^X {}"));
        Checks.faulty(1, h("^uphold Any {}"));
        Checks.faulty(1, h("^;"));
        Checks.faulty(1, h("^{}"));
        Checks.faulty(1, h("^1;"));
    }

    private static void expressions() {
        Checks.good(h("note a + b - 1 * 2 / 3 % 4 < 5; note a == b; note a != (b < 1); note - - -a; note -(a); note a--b;"));
        Checks.good(h("note ground X + days X * weight Y - many X / serial X; note X is Any; note X same Y; note X is Late + 1 < 2;"));
        Checks.good(h("note -X is Any; note 1 * X same Y * 2; note (X is Any) == (X same Y);"));
        Checks.faulty(1, h("note a < b ^< 1;"));
        Checks.faulty(1, h("note a == b ^!= 1;"));
        Checks.faulty(1, h("note a ^b;"));
        Checks.faulty(1, h("note a + ^;"));
        Checks.faulty(1, h("note a * ^/ b;"));
        Checks.faulty(1, h("note ^+a;"));
        Checks.faulty(1, h("note -^;"));
        Checks.faulty(1, h("note (a^;"));
        Checks.faulty(1, h("note (^);"));
        Checks.faulty(1, h("note a^);"));
        Checks.faulty(1, h("note ground ^a;"));
        Checks.faulty(1, h("note ground ^none;"));
        Checks.faulty(1, h("note ground X ^is Any;"));
        Checks.faulty(1, h("note a ^is Any;"));
        Checks.faulty(1, h("note X is ^Y;"));
        Checks.faulty(1, h("note X is ^a;"));
        Checks.faulty(1, h("note X same ^none;"));
        Checks.faulty(1, h("note X same ^Any;"));
        Checks.faulty(1, h("note X same Y ^same Z;"));
        Checks.faulty(1, h("note 1 + X^;"));
        Checks.faulty(1, h("note 1 + X ^Y;"));
        Checks.faulty(1, h("note X ^Y;"));
        Checks.faulty(1, h("note 1 ^, 2;"));
    }

    /** The hearing's own block is the first one that is open. */
    private static void openInOneAnother() {
        Checks.good(h("note " + "(".repeat(19) + "1" + ")".repeat(19) + ";"));
        Checks.faulty(1, h("note " + "(".repeat(19) + "^(1" + ")".repeat(20) + ";"));
        Checks.good(h("note " + "- ".repeat(19) + "1;"));
        Checks.faulty(1, h("note " + "- ".repeat(19) + "^- 1;"));
        Checks.faulty(1, h("note " + "- ".repeat(19) + "^- ;"));
        Checks.good(h("note " + "-1".repeat(60) + " - 1 - 1;"));
        Checks.good(h("note " + "-(".repeat(9) + "-1" + ")".repeat(9) + ";"));
        Checks.good(h("note " + "-(".repeat(9) + "-1 - -1" + ")".repeat(9) + " - " + "-".repeat(19) + "a;"));
        Checks.faulty(1, h("note " + "-(".repeat(9) + "-1 - -^-1" + ")".repeat(9) + ";"));
        Checks.faulty(1, h("note " + "-".repeat(18) + "-^(1);"));
        Checks.good(h("if 1 {".repeat(19) + "}".repeat(19)));
        Checks.faulty(1, h("if 1 {".repeat(19) + "if 1 ^{}" + "}".repeat(19)));
        Checks.good(h("if 1 {".repeat(18) + "hold X = Any(1); hear h(1, 2); note (1); note -1;" + "}".repeat(18)));
        Checks.faulty(1, h("if 1 {".repeat(18) + "hold X = Any(^(1));" + "}".repeat(18)));
        Checks.faulty(1, h("if 1 {".repeat(19) + "hold X = Any^(1);" + "}".repeat(19)));
        Checks.faulty(1, h("if 1 {".repeat(19) + "hear h^(1, 2);" + "}".repeat(19)));
        Checks.faulty(1, h("if 1 {".repeat(19) + "note ^-1;" + "}".repeat(19)));
        Checks.good(h("if 1 {".repeat(19) + "note 1 - 1 - 1; note X is Any - 1; note X same X - 1; note ground X - 1;" + "}".repeat(19)));
        Checks.good(h("note -X is Any - ground X; ".repeat(30)));
        Checks.good(h("if 1 {".repeat(17) + "hold X = Late((1), (1)); hear h((1), (1)); note ((1)); note --1;" + "}".repeat(17)));
        Checks.faulty(1, h("if 1 {".repeat(18) + "hold X = Late(1, ^(1));" + "}".repeat(18)));
        Checks.faulty(1, h("if 1 {".repeat(18) + "hear h(^(1), 1);" + "}".repeat(18)));
        Checks.faulty(1, h("if 1 {".repeat(18) + "hear h(1, ^-1);" + "}".repeat(18)));
        Checks.good(h("try {".repeat(19) + "}lastly{}".repeat(19)));
        Checks.faulty(1, h("try {".repeat(19) + "try ^{} lastly {}" + "}lastly{}".repeat(19)));
        Checks.good(h("if (1) {} ".repeat(25)));
    }

    private static void fault2() {
        Checks.faulty(2, "hearing h() {} hearing g() {} hearing ^h() {}");
        Checks.faulty(2, "hearing h(a, b, ^a) {}");
        Checks.faulty(2, h("let ^a = 1;"));
        Checks.faulty(2, h("let c = 1; let ^c = 2;"));
        Checks.faulty(2, h("if a { let c = 1; } else { let ^c = 2; }"));
        Checks.good(h("if a { let c = 1; } note c;"));
        Checks.faulty(2, h("^c = 1; let c = 1;"));
        Checks.faulty(2, h("let c = ^c;"));
        Checks.faulty(2, h("let c = 1 + (2 * -^d);"));
        Checks.faulty(2, h("let ^a = c;"));
        Checks.faulty(2, h("note ^h;"));
        Checks.faulty(2, h("hear h(1, 2) into ^h;"));
        Checks.faulty(2, h("hear h(1, ^c);"));
        Checks.faulty(2, h("hear nowhere(^c);"));
        Checks.faulty(2, h("rest ^c;"));
        Checks.faulty(2, h("if ^c {}"));
        Checks.faulty(2, h("while ^c {}"));
        Checks.faulty(2, h("hold X = Late(a, ^c);"));
        Checks.faulty(2, "hearing h(a) { let b = 1; } hearing g() { note ^b; }");
        Checks.faulty(2, "hearing h(a) {} hearing g() { note ^a; }");
        Checks.good("hearing h(h, g) { let b = 1; } hearing g(h, g) { let b = 2; }");
        Checks.faulty(2, "hearing h() { note ^x; } hearing h() {}");
        Checks.faulty(2, "hearing h() {} hearing ^h() { note x; }");
        Checks.good(h("let c = 1; let cC = c; let c1 = cC;"));
    }

    private static String hearings(int n) {
        StringBuilder all = new StringBuilder();
        for (int i = 0; i < n; i++) {
            all.append("hearing h").append(i).append("() {} ");
        }
        return all.toString();
    }

    private static void fault3() {
        Checks.good(hearings(16));
        Checks.faulty(3, hearings(16) + "^hearing last() {}");
        Checks.faulty(3, hearings(16) + "^hearing last() {} hearing more() {}");
        Checks.good("hearing h(a, b, c, d) {}");
        Checks.faulty(3, "hearing h(a, b, c, d, ^e) {}");
        Checks.faulty(3, "hearing h(a, b, c, d, ^e, f) {}");
        Checks.faulty(3, "hearing h(a,b,c,d,^e,f,g,h,i,j,k,l,m,n,o,p,q,r,s,t,u,v,w,x,y,z){}");
        String lets = "let c = 1; let d = 1; let e = 1; let f = 1; let g = 1; let i = 1; let j = 1; let k = 1; let l = 1;";
        Checks.good(h(lets + " let m = 1;"));
        Checks.faulty(3, h(lets + " let m = 1; let ^n = 1;"));
        Checks.faulty(3, h(lets + " let m = 1; let ^n = 1; let o = 1;"));
        Checks.good(h(lets + " let m = 1;") + h(lets + " let m = 1;").replace("hearing h", "hearing o"));
        String holds = "hold A = B; raise C; join D to E; note F; try {} uphold Any G {}";
        Checks.good(h(holds + " hold H = cause A; note H same A;"));
        Checks.faulty(3, h(holds + " hold H = cause ^I;"));
        Checks.faulty(3, h(holds + " note H; raise ^I;"));
        Checks.faulty(3, h(holds + " note H; note A same ^I;"));
        Checks.faulty(3, h(holds + " note H; note ^I is Any;"));
        Checks.faulty(3, h(holds + " note H; try {} uphold Any ^I {}"));
        Checks.faulty(3, h(holds + " note H; hold A = Any(1) because ^I;"));
        Checks.faulty(3, h(holds + " note H; join A to ^I;"));
        Checks.faulty(3, h(lets + " let m = 1; " + holds + " note H; let ^n = ground I;"));
        Checks.faulty(3, h(lets + holds + " note H; note ^I; let m = 1; let n = 1;"));
        Checks.good(h(holds + " note H;") + h("note I;").replace("hearing h", "hearing g"));
    }

    private static void fault4() {
        Checks.good("hearing h() { hear g(1, 2); hear h(); } hearing g(a, b) { hear h(); }");
        Checks.faulty(4, "hearing h() { hear ^g(); }");
        Checks.faulty(4, "hearing h() { hear ^h(1); }");
        Checks.faulty(4, "hearing h(a) { hear ^h(); }");
        Checks.faulty(4, "hearing h(a) { hear ^h(1, 2); }");
        Checks.faulty(4, "hearing h(a) { hear h(1); hear ^k(1, 2, 3, 4, 5, 6); hear h(); }");
        Checks.faulty(4, "hearing h(a) { if a { while a { try {} lastly { hear ^a(1); } } } }");
        Checks.faulty(4, "hearing h() { hear g(); } hearing g() { hear ^x(); }");
    }

    private static void whichFault() {
        Checks.faulty(1, "hearing h() { note x; } hearing h() {} ^!");
        Checks.faulty(2, "hearing h(a, b, c, d, e) { hear k(); } hearing ^h() {}");
        Checks.faulty(2, "hearing h(a, b, c, d, e, ^a) { hear k(); }");
        Checks.faulty(3, "hearing g() { hear k(); } hearing h(a, b, c, d, ^e) {}");
        Checks.faulty(2, "hearing g() { hear k(^x); } hearing h(a, b, c, d, e) {}");
        Checks.faulty(2, hearings(20) + "hearing ^h17() {}");
        Checks.faulty(4, hearings(15) + "hearing h() { hear ^h15(); }");
    }

    private static void longTexts() {
        StringBuilder names = new StringBuilder("hearing h() {");
        for (int i = 0; i < 360; i++) {
            names.append("let n").append((char) ('a' + i / 26)).append((char) ('a' + i % 26)).append("=1;");
        }
        Checks.faulty(3, (names + "}").replace("let nam=", "let ^nam="));
        Checks.faulty(2, names + "note ^xx;}");
        Checks.faulty(2, names + "let ^nnu=1;}");
        StringBuilder sum = new StringBuilder("hearing h(){rest 1");
        while (sum.length() < 3998) {
            sum.append("+1");
        }
        AppealCourt x = Checks.court(sum + ";}");
        Checks.due("the text's length", sum.length() + 2, 4000);
        Checks.due("trial", x.trial(0, 0, 0, 1), 0);
        Checks.due("sum", x.about(1), 1991);
        StringBuilder hears = new StringBuilder("hearing h(){");
        while (hears.length() < 3990) {
            hears.append("hear h();");
        }
        Checks.court(hears + "}");
        Checks.faulty(4, hears.substring(0, hears.length() - 9) + "hear ^g();}");
    }
}
