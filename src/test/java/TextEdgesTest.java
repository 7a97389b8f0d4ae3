/** "II. THE TEXT", sentence by sentence, at the edges that it names. */
public final class TextEdgesTest {
    public static void main(String[] args) {
        eachByteAlone();
        eachByteBehindAName();
        eachByteBehindANumber();
        blanksBetweenAll();
        atMostFourThousand();
        lengthsOfNames();
        namesThatAreNearlyAlike();
        lengthsOfObjects();
        lengthsOfNumbers();
        asLongAsCanBe();
        commaForLateAlone();
        upholdOrLastlyAtLeast();
        noteOfAnObjectAlone();
        eachTokenMissing();
        eachHearingsTokenMissing();
        theEndAnywhere();
        theFirstFaultOneCounts();
        twentyOneOpen();
        openOnesThatAreClosed();
        sameHearingName();
        nameThereAlready();
        nameNotToldAhead();
        letToldBehindItsEnd();
        sixteenHearings();
        fourParameters();
        twelveNames();
        eightObjects();
        hearOfNowhere();
        hearWithOtherParameters();
        whichFaultCounts();
        theLeastPlace();
        Checks.finish();
    }

    private static String h(String statements) {
        return "hearing h(a, b) { " + statements + " }";
    }

    private static boolean isBlank(int c) {
        return c == 9 || c == 10 || c == 13 || c == 32;
    }

    private static boolean isWordSign(int c) {
        return c >= '0' && c <= '9' || c >= 'A' && c <= 'Z' || c >= 'a' && c <= 'z';
    }

    /** "bytes 9, 10, 13, 32 .. 126"; "Bytes 9, 10, 13, 32 stand between them as one likes". */
    private static void eachByteAlone() {
        for (int c = 0; c < 256; c++) {
            AppealCourt x = new AppealCourt();
            Checks.due("byte " + c, Checks.read(x, "" + (char) c), isBlank(c) ? 0 : 1);
            Checks.due("place of byte " + c, x.fault(1), isBlank(c) ? -1 : 0);
        }
    }

    private static void eachByteBehindAName() {
        for (int c = 0; c < 256; c++) {
            AppealCourt x = new AppealCourt();
            int fault = isWordSign(c) ? 2 : "+-*/%<".indexOf(c) >= 0 ? 0 : 1;
            int place = fault == 0 ? -1 : fault == 2 ? 19 : isBlank(c) || c == ';' ? 21 : 20;
            Checks.due("name, byte " + c, Checks.read(x, "hearing h(a) {note a" + (char) c + "1;}"), fault);
            Checks.due("place with byte " + c, x.fault(1), place);
        }
    }

    /** "NUMBERS of up to 9 digits (no letter behind)". */
    private static void eachByteBehindANumber() {
        for (int c = 0; c < 256; c++) {
            AppealCourt x = new AppealCourt();
            boolean good = isBlank(c) || c >= '0' && c <= '9' || c == ';';
            String text = "hearing h() {note 1" + (char) c + (c == ';' ? "}" : ";}");
            Checks.due("number, byte " + c, Checks.read(x, text), good ? 0 : 1);
            boolean letter = isWordSign(c) && !good;
            boolean goesOn = "+-*/%<".indexOf(c) >= 0;
            Checks.due("place with byte " + c, x.fault(1), good ? -1 : letter ? 18 : goesOn ? 20 : 19);
        }
    }

    private static void blanksBetweenAll() {
        String[] tokens = ("hearing h ( a , b ) { let c = - 1 ; hold X = Late ( 1 , 2 ) because none ; if X is Any { note X ; } else { rest a == b ; }"
                + " try { raise X ; } uphold Any Y { join X to Y ; } lastly { hear h ( 1 , 2 ) into c ; } }").split(" ");
        for (String blank : new String[] {"\t", "\n", "\r", " ", "\r\n", " \t \n\r  "}) {
            Checks.good(blank + String.join(blank, tokens) + blank);
        }
    }

    /** "at most 4,000". */
    private static void atMostFourThousand() {
        String text = "hearing h(){rest 5;}";
        AppealCourt x = new AppealCourt();
        Checks.feed(x, Checks.times(3980, " ") + text);
        Checks.due("4,000 bytes", x.read(4000), 0);
        Checks.due("one hearing", x.about(9), 1);
        Checks.feed(x, Checks.times(3980, " ") + text);
        Checks.due("3,999 of them", x.read(3999), 1);
        Checks.due("at the end", x.fault(1), 3999);
        x = new AppealCourt();
        Checks.feed(x, Checks.times(4000, " ") + text);
        Checks.due("what is behind them never came", x.read(4000), 0);
        Checks.due("no hearing", x.about(9), 0);
    }

    /** "NAMES: a small letter, then letters and digits, up to 10 signs". */
    private static void lengthsOfNames() {
        for (int n = 1; n <= 14; n++) {
            String name = "zZ9yA0bB1cC2dD".substring(0, n);
            String marked = "hearing " + (n <= 10 ? "" : "^") + name + "(^" + name + "x) {}";
            if (n < 10) {
                Checks.good(marked.replace("^", ""));
            } else if (n == 10) {
                Checks.faulty(1, marked);
            } else {
                Checks.faulty(1, marked.replace("(^", "("));
            }
        }
        Checks.good(h("let abcdefghij = 1; let abcdefghik = abcdefghij; let bbcdefghij = abcdefghik;"));
        Checks.faulty(2, h("let abcdefghij = 1; note ^abcdefghiJ;"));
        Checks.faulty(2, h("let ab = 1; note ^abc;"));
        Checks.faulty(2, h("let ab = 1; note ^aB;"));
    }

    private static void namesThatAreNearlyAlike() {
        String signs = "0123456789ABCDEFGHIJKLMNOPQRSTUVWXYZabcdefghijklmnopqrstuvwxyz";
        for (int i = 0; i < signs.length(); i++) {
            for (int j = 0; j < signs.length(); j++) {
                String mark = i == j ? "" : "^";
                for (String end : new String[] {"", "A", "z", "0"}) {
                    String text = "hearing h(x" + signs.charAt(i) + end + ") { note " + mark + "x" + signs.charAt(j) + end + "; }";
                    if (i == j) {
                        Checks.good(text);
                    } else {
                        Checks.faulty(2, text);
                    }
                }
            }
        }
    }

    /** "OBJECTS: a capital letter, likewise". */
    private static void lengthsOfObjects() {
        for (int n = 1; n <= 14; n++) {
            String name = "Zz9YA0bB1cC2dD".substring(0, n);
            if (n <= 10) {
                Checks.good(h("raise " + name + ";"));
            } else {
                Checks.faulty(1, h("raise ^" + name + ";"));
            }
        }
        Checks.tried(0, "hold Abcdefghij = Any(1); note Abcdefghij; note Abcdefghik; note Abcdefghi; note ABcdefghij;", 1, 0, 0, 0);
    }

    /** "NUMBERS of up to 9 digits". */
    private static void lengthsOfNumbers() {
        Checks.tried(0, "note 0; note 9; note 00; note 123456789; note 999999999; note 000000000; note 000000012;", 0, 9, 0, 123456789, 999999999, 0, 12);
        for (String bad : new String[] {"1000000000", "0000000000", "9999999999", "12345678901234567890", "1a", "1A", "123456789a", "0x1", "1234567890a"}) {
            Checks.faulty(1, h("note ^" + bad + ";"));
            Checks.faulty(1, h("note a + ^" + bad + ";"));
        }
    }

    /** "TOKENS, as long as can be". */
    private static void asLongAsCanBe() {
        Checks.faulty(1, "^hearingh() {}");
        Checks.faulty(1, h("notea^;"));
        Checks.faulty(1, h("rest1^;"));
        Checks.faulty(1, h("raiseX^;"));
        Checks.good(h("note a==b; note a!=b; note a<b; note a<-b; note a--b; note a==-b; hold X=none; a=-b;"));
        Checks.faulty(1, h("a^==b;"));
        Checks.faulty(1, h("note a==^=b;"));
        Checks.faulty(1, h("note a^= =b;"));
        Checks.faulty(1, h("note a^!;"));
        Checks.faulty(1, h("note a^!b;"));
        Checks.faulty(1, h("note ^!a;"));
        Checks.faulty(1, h("hold X^==Y;"));
    }

    /** "(the "," for Late alone)". */
    private static void commaForLateAlone() {
        Checks.good(h("hold X = Late(1); hold X = Late(1, 2);"));
        for (String kind : "Any Form Party Merit Bias Proof".split(" ")) {
            Checks.good(h("hold X = " + kind + "(1);"));
            Checks.faulty(1, h("hold X = " + kind + "(1 ^, 2);"));
        }
        Checks.faulty(1, h("hold X = Late(^);"));
        Checks.faulty(1, h("hold X = Late(1, 2 ^, 3);"));
    }

    /** "(an uphold or lastly at least)". */
    private static void upholdOrLastlyAtLeast() {
        Checks.good(h("try {} uphold Any {}"));
        Checks.good(h("try {} lastly {}"));
        Checks.good(h("try {} " + Checks.times(100, "uphold Any X {} ") + " lastly {}"));
        Checks.faulty(1, "hearing h() { try {} ^}");
        Checks.faulty(1, "hearing h() { try {} ^try {} lastly {} }");
        Checks.faulty(1, "hearing h() { try {}^");
    }

    /** "(An OBJECT behind "note" with neither "is" nor "same" behind it is that alone.)". */
    private static void noteOfAnObjectAlone() {
        Checks.tried(0, "hold X = Any(1); note X; note X is Any; note X same X; note X is Any + 5; note X same Y * 3 + 2 < 1 + 2;", 1, 1, 1, 6, 1);
        for (String sign : "+ - * / % < == != , ) ( is1 X {".split(" ")) {
            Checks.faulty(1, h("note X ^" + sign + " 1;"));
        }
        Checks.faulty(1, h("note (X ^);"));
        Checks.faulty(1, h("note -X ^;"));
        Checks.faulty(1, h("rest X ^;"));
    }

    /**
     * Each token of a form is left out in turn: "n": FAULT 1 is at the next token, "m": at the one behind it,
     * "e": at the end, since a block's end is taken for the one that was left out; "-": a text goes on.
     */
    private static void missing(String head, String form, String faults, String tail) {
        String[] tokens = (form + " " + tail).trim().split(" ");
        Checks.due("tokens of " + form, form.split(" ").length, faults.length());
        for (int i = 0; i < faults.length(); i++) {
            char fault = faults.charAt(i);
            StringBuilder text = new StringBuilder(head);
            for (int k = 0; k < tokens.length; k++) {
                boolean here = k == i + (fault == 'n' ? 1 : fault == 'm' ? 2 : -1 - i);
                text.append(here ? " ^" : " ").append(k == i ? "" : tokens[k]);
            }
            boolean atTheEnd = fault == 'e' || text.indexOf("^") < 0;
            if (fault == '-') {
                Checks.good(text.toString());
            } else {
                Checks.faulty(1, text + (atTheEnd ? "^" : ""));
            }
        }
    }

    private static void eachTokenMissing() {
        String[][] forms = {{"a = 1 ;", "nnnn"}, {"hold X = Y ;", "nnnnn"}, {"hold X = none ;", "nnnnn"}, {"hold X = cause Y ;", "nnn-nn"},
            {"hold X = Late ( 1 , 2 ) because Y ;", "nnnnnnnnnnnn"}, {"hold X = Any ( 1 ) because none ;", "nnnnnnnnnn"}, {"raise X ;", "nnn"}, {"join X to Y ;", "nnnnn"},
            {"join X to none ;", "nnnnn"}, {"note 1 ;", "nnn"}, {"note X ;", "nnn"}, {"hear h ( 1 , 2 ) into a ;", "mnnnnnnnnn"}, {"rest 1 ;", "n-n"}, {"if 1 { } else { }", "nnnnnne"},
            {"while 1 { }", "nnne"}, {"try { } uphold Any X { } lastly { }", "nnnnn-nnnne"}, {"note ground X ;", "n-nn"}, {"note 1 + ground X ;", "nnnmnn"}, {"note X is Any ;", "nnnnn"},
            {"note X same Y ;", "nnnnn"}, {"note ( 1 ) ;", "nmnnn"}, {"note - 1 ;", "n-nn"}, {"note 1 - 2 ;", "n-nnn"}};
        for (String[] form : forms) {
            missing("hearing h(a, b) {", form[0], form[1], "}");
        }
        missing("hearing h(a, b) { let", "c = 1 ;", "nnnn", "}");
        Checks.faulty(2, "hearing h(a, b) { ^c = 1 ; }");
        for (String sign : "+ * / % < == !=".split(" ")) {
            missing("hearing h(a, b) {", "note 1 " + sign + " 2 ;", "nnnnn", "}");
        }
        for (String word : "days weight many serial".split(" ")) {
            missing("hearing h(a, b) {", "rest 3 * " + word + " X ;", "nnnmnn", "}");
        }
    }

    private static void eachHearingsTokenMissing() {
        missing("", "hearing g ( a , b ) { }", "nnnnnnnne", "");
        missing("hearing h() {}", "hearing g ( a , b ) { }", "nnnnnnnne", "");
        missing("", "hearing g ( ) { }", "nnnnne", "");
    }

    /** "FAULT 1: the first token .. with which no text goes on, or the end". */
    private static void theEndAnywhere() {
        String[] tokens = ("hearing h ( a , b ) { let c = - 1 ; hold X = Late ( 1 , 2 ) because none ; if X is Any { note X ; } else { rest a == b ; }"
                + " try { raise X ; } uphold Any Y { join X to Y ; } lastly { hear h ( 1 , ground X ) into c ; } while ( a < 3 ) { note X same Y ; } }").split(" ");
        StringBuilder some = new StringBuilder();
        for (int k = 0; k < tokens.length - 1; k++) {
            some.append(tokens[k]);
            Checks.faulty(1, some + "^");
            some.append(" ");
            Checks.faulty(1, some + "^");
            Checks.faulty(1, some + "\n\t^");
        }
        Checks.good(some + "}");
        Checks.good(some + "} \n");
        Checks.good("");
    }

    private static void theFirstFaultOneCounts() {
        Checks.faulty(1, h("note ^; note ;"));
        Checks.faulty(1, h("note ^1234567890; ! note 12a;"));
        Checks.faulty(1, h("^! note 1234567890;"));
        Checks.faulty(1, h("note a ^abcdefghijk; !"));
        Checks.faulty(1, h("note " + "(".repeat(19) + "^(" + "!"));
        Checks.faulty(1, h("note ^) " + "(".repeat(30)));
    }

    /** "also the 21st of { ( (all of them) and - ahead of an f that are open in one another". */
    private static void twentyOneOpen() {
        for (String opener : new String[] {"if 1 {", "while 0 {", "if 0 {} else {", "try {} lastly {", "try {} uphold Any {"}) {
            Checks.good(h(opener.repeat(19) + "}".repeat(19)));
            Checks.faulty(1, h(opener.repeat(19) + "while 0 ^{"));
        }
        Checks.faulty(1, h("if 1 {".repeat(19) + "if 0 ^{} else {}"));
        for (int blocks = 0; blocks <= 19; blocks++) {
            String open = "if 1 {".repeat(blocks);
            String close = "}".repeat(blocks);
            int room = 19 - blocks;
            Checks.good(h(open + "note " + "(".repeat(room) + "1" + ")".repeat(room) + ";" + close));
            Checks.faulty(1, h(open + "note " + "(".repeat(room) + "^(1"));
            Checks.good(h(open + "note " + "-".repeat(room) + "a;" + close));
            Checks.faulty(1, h(open + "note " + "-".repeat(room) + "^-a;"));
            Checks.faulty(1, h(open + "if " + "(".repeat(room) + "^(1"));
            if (room > 0) {
                String in = "(-".repeat(room / 2) + (room % 2 == 1 ? "(" : "");
                Checks.faulty(1, h(open + "rest " + in + "^(1"));
                Checks.faulty(1, h(open + "rest " + in + "^-1"));
                Checks.good(h(open + "hold X = Late(" + "-".repeat(room - 1) + "1, " + "-".repeat(room - 1) + "1);" + close));
                Checks.faulty(1, h(open + "hold X = Late(" + "-".repeat(room - 1) + "1, " + "-".repeat(room - 1) + "^-1"));
                Checks.good(h(open + "hear h(" + "-".repeat(room - 1) + "1, " + "-".repeat(room - 1) + "1);" + close));
                Checks.faulty(1, h(open + "hear h(" + "-".repeat(room - 1) + "1, " + "-".repeat(room - 1) + "^-1"));
            } else {
                Checks.faulty(1, h(open + "hold X = Any^(1);"));
                Checks.faulty(1, h(open + "hear h^(1, 2);"));
                Checks.faulty(1, h(open + "try ^{} lastly {}"));
            }
        }
    }

    private static void openOnesThatAreClosed() {
        Checks.good(h("note (1) + (2) * (3) - -4 - - -(5);".repeat(40)));
        Checks.good(h("if 1 { if 1 { note -(-(1)); } }".repeat(40)));
        Checks.good(h("note " + "-".repeat(19) + "1 + " + "-".repeat(19) + "a * " + "-".repeat(19) + "ground X < " + "-".repeat(19) + "X is Any;"));
        Checks.good(h("note " + "(".repeat(19) + "1" + ")".repeat(19) + " - " + "(".repeat(19) + "1" + ")".repeat(19) + ";"));
        Checks.good(h("note 1" + " - 1".repeat(300) + ";"));
        Checks.tried(0, "note " + "-".repeat(19) + "a; note " + "-".repeat(18) + "a - " + "-".repeat(19) + "a;", -7, 14);
    }

    /** "FAULT 2 ..: a hearing's name that one ahead has". */
    private static void sameHearingName() {
        Checks.good("hearing a() {} hearing aa() {} hearing aA() {} hearing a1() {}");
        Checks.faulty(2, "hearing a() {} hearing ^a() {}");
        Checks.faulty(2, "hearing a() {} hearing b() {} hearing ^a(c) {} hearing b() {}");
        Checks.good("hearing a(a) { let b = a; } hearing b(b) { let a = b; hear a(b); }");
    }

    /** "a parameter, or a let's NAME, that is there already in the hearing". */
    private static void nameThereAlready() {
        Checks.faulty(2, "hearing h(a, ^a) {}");
        Checks.faulty(2, "hearing h(a, b, c, ^b) {}");
        Checks.good("hearing h(a) {} hearing g(a) {}");
        Checks.faulty(2, "hearing h(a) { let ^a = 1; }");
        Checks.faulty(2, "hearing h() { let a = 1; let ^a = 1; }");
        Checks.faulty(2, "hearing h() { while 0 { let a = 1; } let ^a = 1; }");
        Checks.faulty(2, "hearing h() { try { let a = 1; } uphold Any { let ^a = 2; } lastly { let a = 3; } }");
        Checks.good("hearing h() { let a = 1; } hearing g() { let a = 1; }");
    }

    /** "a NAME, told by neither ahead of it in the hearing's text, elsewhere but behind "hear"". */
    private static void nameNotToldAhead() {
        for (String use : new String[] {"note ^c;", "^c = 1;", "let d = ^c;", "rest ^c;", "if ^c {}", "while ^c {}", "hold X = Any(^c);", "hold X = Late(1, ^c);", "hear h(^c, 1);", "hear h(1, 2) into ^c;", "note -(1 + ^c);"}) {
            Checks.faulty(2, h(use));
            Checks.faulty(2, h(use + " let c = 1;"));
            Checks.good(h("let c = 1; " + use.replace("^", "")));
            Checks.good(h("if 0 { let c = 1; } " + use.replace("^", "")));
        }
        Checks.faulty(2, "hearing h(c) { let d = 1; } hearing g() { note ^c; }");
        Checks.faulty(2, "hearing h() { note ^d; } hearing g(d) {}");
        Checks.good("hearing h() { hear c(); } hearing c() {}");
        Checks.faulty(2, "hearing h() { hear c(); note ^c; } hearing c() {}");
    }

    /** "(A let's NAME is told behind its ;.)". */
    private static void letToldBehindItsEnd() {
        Checks.faulty(2, h("let c = ^c;"));
        Checks.faulty(2, h("let c = 1 + (2 - ^c) * c;"));
        Checks.good(h("let c = 1; let d = c; let e = d + c;"));
    }

    private static String hearings(int n) {
        StringBuilder all = new StringBuilder();
        for (int i = 0; i < n; i++) {
            all.append("hearing h").append(i).append("() { rest ").append(i).append("; } ");
        }
        return all.toString();
    }

    /** "FAULT 3 ..: 16 hearings". */
    private static void sixteenHearings() {
        Checks.good(hearings(15));
        AppealCourt x = Checks.court(hearings(16));
        Checks.due("hearings", x.about(9), 16);
        for (int i = 0; i < 16; i++) {
            Checks.due("hearing " + i, x.trial(i, 0, 0, 1), 0);
            Checks.due("rests with", x.about(1), i);
        }
        Checks.due("no hearing 16", x.trial(16, 0, 0, 1), -1);
        Checks.due("17", Checks.read(x, hearings(17)), 3);
        Checks.due("the text stays", x.about(9), 16);
        Checks.faulty(3, hearings(16) + "^" + hearings(4).replace("hearing h", "hearing g"));
    }

    /** "4 parameters". */
    private static void fourParameters() {
        Checks.good("hearing h() {}");
        Checks.good("hearing h(a, b, c) {}");
        Checks.good("hearing h(a, b, c, d) { hear h(1, 2, 3, 4); }");
        Checks.faulty(3, "hearing h(a, b, c, d, ^e) { hear h(1, 2, 3, 4, 5); }");
        Checks.faulty(3, "hearing g(a, b, c, d) {} hearing h(a, b, c, d, ^e, f, g) {}");
    }

    private static String lets(int n) {
        StringBuilder all = new StringBuilder();
        for (int i = 0; i < n; i++) {
            all.append("let n").append(i).append(" = ").append(i).append("; ");
        }
        return all.toString();
    }

    /** "12 NAMES of a hearing (parameters, too)". */
    private static void twelveNames() {
        String[] parameters = {"", "a", "a, b", "a, b, c", "a, b, c, d"};
        for (int p = 0; p <= 4; p++) {
            String head = "hearing h(" + parameters[p] + ") { ";
            Checks.good(head + lets(11 - p) + "}");
            Checks.good(head + lets(12 - p) + "}");
            Checks.faulty(3, head + lets(12 - p) + "let ^x = 1; }");
            Checks.faulty(3, head + lets(12 - p) + "let ^x = 1; let y = x; } hearing g(a, b, c, d, e) {}");
            Checks.good(head + lets(12 - p) + "} hearing g() { " + lets(12) + "hear x(); } hearing x() {}");
        }
    }

    private static String objects(int n) {
        StringBuilder all = new StringBuilder();
        for (int i = 0; i < n; i++) {
            all.append("note X").append(i).append("; ");
        }
        return all.toString();
    }

    /** "8 OBJECTS of a hearing". */
    private static void eightObjects() {
        Checks.good(h(objects(7)));
        Checks.good(h(objects(8) + objects(8)));
        Checks.good(h(objects(8)) + " hearing g() { " + objects(8).replace("X", "Y") + "}");
        String[] uses = {"hold ^Z = none;", "hold X0 = ^Z;", "hold X0 = cause ^Z;", "hold X0 = Any(1) because ^Z;", "hold X0 = Any(ground ^Z);", "raise ^Z;", "join ^Z to none;",
            "join X0 to ^Z;", "note ^Z;", "note ^Z is Any;", "note X0 same ^Z;", "note days ^Z;", "note weight ^Z;", "note many ^Z;", "note serial ^Z;", "hear h(1, ground ^Z);",
            "rest ^Z is Any;", "if ^Z is Any {}", "while ^Z same X0 {}", "try {} uphold Any ^Z {}"};
        for (String use : uses) {
            Checks.faulty(3, h(objects(8) + use));
            Checks.good(h(objects(7) + use.replace("^", "")));
            Checks.good(h(objects(8) + use.replace("^Z", "X7")));
        }
    }

    /** "FAULT 4 ..: the least place (of the NAME) of a hear whose hearing is nowhere". */
    private static void hearOfNowhere() {
        Checks.good("hearing h() { hear h(); hear g(); } hearing g() { hear h(); }");
        Checks.faulty(4, "hearing h() { hear ^g(); } hearing gg() {}");
        Checks.faulty(4, "hearing h(g) { hear ^g(); }");
        Checks.faulty(4, "hearing h() { hear \n ^g(); hear k(); }");
    }

    /** ".. or has another number of parameters". */
    private static void hearWithOtherParameters() {
        String[] given = {"", "1", "1, 2", "1, 2, 3", "1, 2, 3, 4", "1, 2, 3, 4, 5"};
        String[] told = {"", "a", "a, b", "a, b, c", "a, b, c, d"};
        for (int t = 0; t < told.length; t++) {
            for (int g = 0; g < given.length; g++) {
                String text = "hearing h() { hear ^k(" + given[g] + "); } hearing k(" + told[t] + ") {}";
                if (t == g) {
                    Checks.good(text.replace("^", ""));
                } else {
                    Checks.faulty(4, text);
                }
            }
        }
    }

    /** "FAULT 2, if there is no 1", "FAULT 3, if there is none of these", "FAULT 4, if there is none of these". */
    private static void whichFaultCounts() {
        String one = "hearing k1() { ; } ";
        String two = "hearing k2() { note x; } ";
        String three = "hearing k3(a, b, c, d, e) {} ";
        String four = "hearing k4() { hear x(); } ";
        String[] all = {one, two, three, four};
        int[] places = {15, 20, 23, 20};
        for (int i = 0; i < 4; i++) {
            for (int j = 0; j < 4; j++) {
                AppealCourt x = new AppealCourt();
                String text = all[i] + (i == j ? "" : all[j]);
                int fault = Math.min(i, j) + 1;
                Checks.due("read of " + text, Checks.read(x, text), fault);
                Checks.due("place", x.fault(1), places[fault - 1] + (fault == i + 1 ? 0 : all[i].length()));
            }
        }
        AppealCourt x = new AppealCourt();
        Checks.due("all of them", Checks.read(x, four + three + two + one), 1);
        Checks.due("all but 1", Checks.read(x, four + three + two), 2);
        Checks.due("3 and 4", Checks.read(x, four + three), 3);
    }

    /** "the least place of". */
    private static void theLeastPlace() {
        Checks.faulty(2, "hearing h(a, ^a) { let a = 1; note x; } hearing h() {}");
        Checks.faulty(2, "hearing h(a) { let ^a = x; }");
        Checks.faulty(2, "hearing h() { note ^x; note y; } hearing h() {}");
        Checks.faulty(2, "hearing h() {} hearing ^h(a, a) { note x; }");
        Checks.faulty(3, "hearing h(a, b, c, d, ^e) { " + objects(9) + lets(9) + "} " + hearings(16));
        Checks.faulty(3, "hearing h() { " + objects(8) + "note ^Y; " + lets(13) + "} " + hearings(16));
        Checks.faulty(3, "hearing h() { " + lets(12) + "let ^y = ground Y; " + objects(8) + "} " + hearings(16));
        Checks.faulty(3, hearings(16) + "^hearing h(a, b, c, d, e) {}");
        Checks.faulty(4, "hearing h() { hear ^x(); hear h(1); }");
        Checks.faulty(4, "hearing h() { hear ^h(1); hear x(); }");
    }
}
