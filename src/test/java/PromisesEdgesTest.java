import java.util.ArrayList;
import java.util.Arrays;
import java.util.List;

/** Promises 1 to 11: what is NONE, 0 or false, the least and the most that is taken, and what a refused call leaves. */
public final class PromisesEdgesTest {
    private static final int[] BEYOND = {Checks.MIN, Checks.MIN + 1, Checks.MAX - 1, Checks.MAX, 256, -256, 65536, -65536, 1 << 30};
    private static final int BLANKS = 0x20202020;

    public static void main(String[] args) {
        aheadOfAll();
        aheadOfAnyTrial();
        feedUpToFourThousand();
        feedRefused();
        readBounds();
        readRefused();
        readWithAFault();
        readOfAnotherText();
        faultBounds();
        policyBounds();
        policyRefused();
        complainBounds();
        complainRefused();
        complainAtEightThousand();
        trialBounds();
        trialRefused();
        trialParameters();
        aboutBounds();
        aboutBehindEachOutcome();
        noteBounds();
        chainBounds();
        complaintBounds();
        Checks.finish();
    }

    /** All that can be asked of a court but for its faults, which come last, and for what it was fed. */
    private static List<Integer> all(AppealCourt x) {
        List<Integer> answers = new ArrayList<>();
        for (int what = 0; what <= 9; what++) {
            answers.add(x.about(what));
        }
        for (int k = 0; k < 4; k++) {
            answers.add(x.note(k));
        }
        for (int i = 0; i < 3; i++) {
            for (int what = 0; what <= 6; what++) {
                answers.add(x.chain(i, what));
            }
        }
        for (int instance = 0; instance < 3; instance++) {
            for (int what = 0; what <= 6; what++) {
                answers.add(x.complaint(instance, 0, what));
            }
        }
        answers.add(x.fault(0));
        answers.add(x.fault(1));
        return answers;
    }

    private static void same(String what, AppealCourt x, List<Integer> before) {
        List<Integer> now = all(x);
        Checks.due(what + " leaves all as it was: " + before + ", not " + now, now.equals(before), true);
    }

    /** A court with a text, policies, COMPLAINTS and a trial behind it. */
    private static AppealCourt used() {
        AppealCourt x = Checks.court("hearing h(a, b) { note a; note b; hold X = Late(a, b); if b { raise X; } rest 3; } hearing g() { rest 8; }");
        x.complain(0, 4, 5);
        x.complain(2, 6, 7);
        x.policy(0, 1, 4, 0);
        x.policy(1, 4, 2, 1);
        x.policy(2, 1, 5, 1000);
        Checks.due("STRUCK", x.trial(0, 5, 6, 50), 1);
        return x;
    }

    /** "No text, no policies, no complaints; nothing was made." */
    private static void aheadOfAll() {
        AppealCourt x = new AppealCourt();
        List<Integer> due = new ArrayList<>(List.of(-1, 0, -1, 0, 0, 0, 0, 0, 0, 0));
        due.addAll(List.of(0, 0, 0, 0));
        for (int i = 0; i < 6; i++) {
            due.addAll(List.of(-1, 0, 0, 0, 0, 0, 0));
        }
        due.addAll(List.of(-1, -1));
        same("a new object", x, due);
        for (int h : new int[] {-1, 0, 1, 15, 16}) {
            Checks.due("no hearing " + h, x.trial(h, 0, 0, 1), -1);
        }
        Checks.due("nothing fed", x.read(1), -1);
        same("what is refused", x, due);
        Checks.due("the first to be made", x.complain(0, 0, 0), 1);
    }

    /** "0 NONE, 1 and 3 to 6 0 ahead of any, 2 NONE." */
    private static void aheadOfAnyTrial() {
        AppealCourt x = Checks.court("hearing h() { note 4; rest 7; } hearing g() {}");
        x.complain(1, 2, 3);
        x.trial(2, 0, 0, 5);
        int[] due = {-1, 0, -1, 0, 0, 0, 0, 1, 0, 2};
        for (int what = 0; what < due.length; what++) {
            Checks.due("about(" + what + ")", x.about(what), due[what]);
        }
        Checks.due("note(0)", x.note(0), 0);
        Checks.nothingInChain("ahead of any trial", x, 0);
        Checks.due("fault(0)", x.fault(0), 0);
        Checks.due("fault(1)", x.fault(1), -1);
    }

    /** "Twenty bytes come behind those fed, of each int the highest first: how many there are". */
    private static void feedUpToFourThousand() {
        AppealCourt x = new AppealCourt();
        for (int n = 20; n <= 4000; n += 20) {
            Checks.due("feed", x.feed(BLANKS, BLANKS, BLANKS, BLANKS, BLANKS), n);
        }
        Checks.due("more than 4,000", x.feed(BLANKS, BLANKS, BLANKS, BLANKS, BLANKS), -1);
        Checks.due("all of them", x.read(4000), 0);
        Checks.due("there is room again", x.feed(BLANKS, BLANKS, BLANKS, BLANKS, BLANKS), 20);
        for (int at = 0; at < 20; at++) {
            int[] ints = {BLANKS, BLANKS, BLANKS, BLANKS, BLANKS};
            ints[at / 4] ^= 0x01 << 24 - at % 4 * 8;
            AppealCourt y = new AppealCourt();
            y.feed(ints[0], ints[1], ints[2], ints[3], ints[4]);
            Checks.due("a ! at " + at, y.read(20), 1);
            Checks.due("its place", y.fault(1), at);
            y.feed(ints[0], ints[1], ints[2], ints[3], ints[4]);
            Checks.due("those ahead of it", y.read(at), 0);
        }
        for (int sign : new int[] {0, -1, Checks.MIN, Checks.MAX}) {
            Checks.due("any ints", new AppealCourt().feed(sign, sign, sign, sign, sign), 20);
        }
    }

    /** "NONE, and nothing comes, if there would be more than 4,000." */
    private static void feedRefused() {
        AppealCourt x = used();
        for (int n = 20; n <= 4000; n += 20) {
            x.feed(BLANKS, BLANKS, BLANKS, BLANKS, BLANKS);
        }
        List<Integer> before = all(x);
        Checks.due("refused", x.feed(-1, -1, -1, -1, -1), -1);
        same("a feed", x, before);
        Checks.due("not more than 4,000", x.read(4001), -1);
        Checks.due("nothing came", x.read(4000), 0);
    }

    /** "NONE, doing nothing, if n is below 0 or more than there are." */
    private static void readBounds() {
        for (int feeds = 0; feeds <= 3; feeds++) {
            for (int n = -2; n <= 20 * feeds + 2; n++) {
                AppealCourt x = new AppealCourt();
                Checks.feed(x, Checks.times(20 * feeds, " "));
                boolean taken = n >= 0 && n <= 20 * feeds;
                Checks.due("read(" + n + ") of " + 20 * feeds, x.read(n), taken ? 0 : -1);
                Checks.due("how many there are then", x.feed(BLANKS, BLANKS, BLANKS, BLANKS, BLANKS), taken ? 20 : 20 * feeds + 20);
            }
            for (int n : BEYOND) {
                AppealCourt x = new AppealCourt();
                Checks.feed(x, Checks.times(20 * feeds, " "));
                Checks.due("read(" + n + ")", x.read(n), -1);
            }
        }
    }

    private static void readRefused() {
        for (int n : new int[] {-1, 41, Checks.MIN, Checks.MAX}) {
            AppealCourt x = used();
            Checks.feed(x, "hearing k() { rest; }");
            List<Integer> before = all(x);
            Checks.due("read(" + n + ")", x.read(n), -1);
            same("read(" + n + ")", x, before);
            Checks.due("what was fed is still there", x.read(21), 0);
            Checks.due("hearings", x.about(9), 1);
        }
    }

    /** "or its FAULT 1 .. 4, and all stays but for fault()". */
    private static void readWithAFault() {
        String[] texts = {"hearing h() { ; }", "hearing h() { x = 1; }", "hearing h(a, b, c, d, e) {}", "hearing h() { hear x(); }"};
        int[] places = {14, 14, 22, 19};
        for (int fault = 1; fault <= 4; fault++) {
            AppealCourt x = used();
            List<Integer> before = all(x);
            before.set(before.size() - 2, fault);
            before.set(before.size() - 1, places[fault - 1]);
            Checks.due("FAULT " + fault, Checks.read(x, texts[fault - 1]), fault);
            same("FAULT " + fault, x, before);
            Checks.due("no bytes are left", x.read(1), -1);
            Checks.due("the text is still tried", x.trial(1, 0, 0, 5), 0);
            Checks.due("and rests", x.about(1), 8);
            Checks.due("policies are still there", x.trial(0, 1, 1, 50), 1);
        }
    }

    /** "0, and it is the text (policies, COMPLAINTS, what the latest trial left stay)". */
    private static void readOfAnotherText() {
        for (String text : new String[] {"", "hearing k() {}", "hearing k() {} hearing l(a) { note a; } hearing m() {}"}) {
            AppealCourt x = used();
            List<Integer> before = all(x);
            Checks.due("read", Checks.read(x, text), 0);
            before.set(9, text.split("hearing").length - 1);
            same("another text", x, before);
        }
        AppealCourt x = used();
        Checks.read(x, "hearing k() { hold X = Form(1); raise X; }");
        Checks.due("policies stay", x.trial(0, 0, 0, 9), 1);
        Checks.due("there", x.about(2), 2);
        Checks.due("the COMPLAINT was SETTLED before", x.about(8), 1);
    }

    /** "what 0: its FAULT (0 without), 1: its place (bytes ahead; NONE without). NONE for others, and ahead of any." */
    private static void faultBounds() {
        AppealCourt x = new AppealCourt();
        faults(x, -1, -1);
        Checks.read(x, "!");
        faults(x, 1, 0);
        x.read(7);
        faults(x, 1, 0);
        Checks.read(x, " !");
        faults(x, 1, 1);
        x.read(0);
        faults(x, 0, -1);
        x.read(-1);
        faults(x, 0, -1);
        Checks.read(x, "hearing h() { note x; }");
        faults(x, 2, 19);
        x.trial(0, 0, 0, 9);
        x.policy(0, 0, 0, 0);
        x.complain(0, 0, 0);
        faults(x, 2, 19);
    }

    private static void faults(AppealCourt x, int fault, int place) {
        Checks.due("fault(0)", x.fault(0), fault);
        Checks.due("fault(1)", x.fault(1), place);
        for (int what : new int[] {-2, -1, 2, 3, 4}) {
            Checks.due("fault(" + what + ")", x.fault(what), -1);
        }
        for (int what : BEYOND) {
            Checks.due("fault(" + what + ")", x.fault(what), -1);
        }
    }

    /** "what 0 .. 5 with k (a KIND for 2, any number for 5, else of no matter); what -1: it has none: true; false .. if there is none such". */
    private static void policyBounds() {
        for (int instance = -2; instance <= 4; instance++) {
            AppealCourt x = new AppealCourt();
            for (int kind = -2; kind <= 8; kind++) {
                for (int what = -3; what <= 7; what++) {
                    boolean there = instance >= 0 && instance <= 2 && kind >= 0 && kind <= 6 && what >= -1 && what <= 5;
                    Checks.due("policy(" + instance + ", " + kind + ", " + what + ", 3)", x.policy(instance, kind, what, 3), there);
                }
            }
        }
        AppealCourt x = new AppealCourt();
        for (int what = -1; what <= 5; what++) {
            for (int k = -2; k <= 8; k++) {
                Checks.due("policy(1, 1, " + what + ", " + k + ")", x.policy(1, 1, what, k), what != 2 || k >= 0 && k <= 6);
            }
            for (int k : BEYOND) {
                Checks.due("policy(1, 1, " + what + ", " + k + ")", x.policy(1, 1, what, k), what != 2);
            }
        }
        for (int bad : BEYOND) {
            Checks.due("instance " + bad, x.policy(bad, 1, 1, 1), false);
            Checks.due("KIND " + bad, x.policy(1, bad, 1, 1), false);
            Checks.due("what " + bad, x.policy(1, 1, bad, 1), false);
        }
    }

    /** "false, and nothing is changed, if there is none such". */
    private static void policyRefused() {
        int[][] bad = {{0, 2, 2, 7}, {0, 2, 2, -1}, {0, 2, 6, 0}, {0, 2, -2, 0}, {-1, 2, 0, 0}, {3, 2, 0, 0}, {0, 7, 0, 0}, {0, -1, 0, 0}, {0, 9, 0, 0}, {1, -5, 0, 0}};
        for (int[] b : bad) {
            AppealCourt y = used();
            List<Integer> before = all(y);
            Checks.due("refused", y.policy(b[0], b[1], b[2], b[3]), false);
            same("policy" + Arrays.toString(b), y, before);
        }
        AppealCourt x = Checks.court("hearing h(a, b) { hold X = Late(a, b); raise X; }");
        x.policy(0, 2, 2, 4);
        for (int[] b : bad) {
            x.policy(b[0], b[1], b[2], b[3]);
        }
        Checks.due("UPHELD", x.trial(0, 1, 1, 9), 2);
        Checks.due("still wrapped", x.chain(0, 0), 4);
        x.policy(0, 2, 5, 50);
        for (int[] b : bad) {
            x.policy(b[0], b[1], b[2], b[3]);
        }
        Checks.due("still weighed, below", x.trial(0, 10, 29, 9), 1);
        Checks.due("still weighed, at it", x.trial(0, 10, 30, 9), 2);
        x.policy(0, 2, -1, 0);
        for (int[] b : bad) {
            x.policy(b[0], b[1], b[2], b[3]);
        }
        x.policy(0, 0, 1, 0);
        Checks.due("still none", x.trial(0, 1, 1, 9), 1);
    }

    /** "The instance's COMPLAINT is a new objection, made by the court, of the KIND with the GROUND (DAYS 0), not SETTLED: its SERIAL." */
    private static void complainBounds() {
        for (int instance = -2; instance <= 4; instance++) {
            AppealCourt x = new AppealCourt();
            int serial = 0;
            for (int kind = -2; kind <= 8; kind++) {
                boolean there = instance >= 0 && instance <= 2 && kind >= 0 && kind <= 6;
                serial += there ? 1 : 0;
                Checks.due("complain(" + instance + ", " + kind + ")", x.complain(instance, kind, -kind), there ? serial : -1);
                Checks.due("made", x.about(7), serial);
                int[] due = {kind, -kind, 0, serial, -1, 0};
                for (int what = 0; what < due.length && there; what++) {
                    Checks.due("complaint", x.complaint(instance, 0, what), due[what]);
                }
            }
        }
        AppealCourt x = new AppealCourt();
        for (int bad : BEYOND) {
            Checks.due("instance " + bad, x.complain(bad, 1, 1), -1);
            Checks.due("KIND " + bad, x.complain(1, bad, 1), -1);
        }
        Checks.due("nothing was made", x.about(7), 0);
    }

    private static void complainRefused() {
        for (int[] b : new int[][] {{-1, 0}, {3, 0}, {0, -1}, {0, 7}, {2, 7}, {-1, -1}}) {
            AppealCourt x = used();
            List<Integer> before = all(x);
            Checks.due("refused", x.complain(b[0], b[1], 9), -1);
            same("complain" + Arrays.toString(b), x, before);
        }
    }

    /** "NONE if .. 8,000 were made". */
    private static void complainAtEightThousand() {
        AppealCourt x = Checks.court("hearing h(n) { while n { hold X = Any(n); n = n - 1; } }");
        for (int i = 0; i < 79; i++) {
            x.trial(0, 100, 0, 999);
        }
        x.trial(0, 98, 0, 999);
        Checks.due("the 7,999th", x.complain(0, 1, 1), 7999);
        Checks.due("the 8,000th", x.complain(1, 2, 2), 8000);
        List<Integer> before = all(x);
        for (int instance = 0; instance < 3; instance++) {
            Checks.due("the 8,001st", x.complain(instance, 3, 3), -1);
            same("complain", x, before);
        }
    }

    /** "for at most so many STEPS (1 .. 5,000)"; "Hearing h (by the text, from 0 on)". */
    private static void trialBounds() {
        for (int hearings = 1; hearings <= 16; hearings += 5) {
            StringBuilder text = new StringBuilder();
            for (int i = 0; i < hearings; i++) {
                text.append("hearing h").append(i).append("() { rest ").append(i + 50).append("; } ");
            }
            AppealCourt x = Checks.court(text.toString());
            for (int h = -2; h <= hearings + 2; h++) {
                boolean there = h >= 0 && h < hearings;
                Checks.due("trial(" + h + ") of " + hearings, x.trial(h, 0, 0, 1), there ? 0 : -1);
                if (there) {
                    Checks.due("rested with", x.about(1), h + 50);
                }
            }
            for (int h : BEYOND) {
                Checks.due("trial(" + h + ")", x.trial(h, 0, 0, 1), -1);
            }
            for (int steps : new int[] {-1, 0, 5001, 5002}) {
                Checks.due("STEPS " + steps, x.trial(0, 0, 0, steps), -1);
            }
            for (int steps : new int[] {1, 2, 4999, 5000}) {
                Checks.due("STEPS " + steps, x.trial(0, 0, 0, steps), 0);
            }
            for (int steps : BEYOND) {
                Checks.due("STEPS " + steps, x.trial(0, 0, 0, steps), steps == 256 ? 0 : -1);
            }
        }
    }

    /** "NONE, doing nothing, if there is no such hearing, or for other steps." */
    private static void trialRefused() {
        for (int[] b : new int[][] {{2, 5}, {-1, 5}, {16, 5}, {0, 0}, {0, -1}, {0, 5001}, {1, Checks.MIN}, {Checks.MAX, 1}}) {
            AppealCourt x = used();
            List<Integer> before = all(x);
            Checks.due("refused", x.trial(b[0], 1, 1, b[1]), -1);
            same("trial" + Arrays.toString(b), x, before);
        }
    }

    /** "its first parameter being a, the second one b, others 0". */
    private static void trialParameters() {
        String[] heads = {"", "p", "p, q", "p, q, r", "p, q, r, s"};
        for (int n = 0; n <= 4; n++) {
            StringBuilder text = new StringBuilder("hearing h(" + heads[n] + ") { if 0 { let x = 9; let y = 9; } note x; note y; ");
            for (int i = 0; i < n; i++) {
                text.append("note ").append("pqrs".charAt(i)).append("; ");
            }
            AppealCourt x = Checks.court(text + "}");
            for (int a : new int[] {5, Checks.MIN, Checks.MAX, 0}) {
                int[] due = Arrays.copyOf(new int[] {0, 0, a, -a - 1, 0, 0}, n + 2);
                Checks.due("RESTED", x.trial(0, a, -a - 1, 50), 0);
                Checks.notes(n + " parameters", x, due);
            }
        }
    }

    /** "NONE for others." */
    private static void aboutBounds() {
        for (AppealCourt x : new AppealCourt[] {new AppealCourt(), used()}) {
            for (int what : new int[] {-3, -2, -1, 10, 11, 12}) {
                Checks.due("about(" + what + ")", x.about(what), -1);
            }
            for (int what : BEYOND) {
                Checks.due("about(" + what + ")", x.about(what), -1);
            }
        }
    }

    /** "1: what it rested with (0 if it did not), 2: the instance where it was STRUCK (NONE: it was not)". */
    private static void aboutBehindEachOutcome() {
        AppealCourt x = Checks.court("hearing h(k) { if k == 0 { rest 9; } if k == 1 { while 1 {} } hold X = Any(k); try { raise X; } lastly { note k; } }");
        for (int i = 0; i < 2; i++) {
            Checks.due("RESTED", x.trial(0, 0, 0, 50), 0);
            tell(x, 0, 9, -1);
            x.policy(1, 0, 1, 0);
            Checks.due("STRUCK", x.trial(0, 2, 0, 50), 1);
            tell(x, 1, 0, 1);
            x.policy(1, 0, -1, 0);
            Checks.due("ADJOURNED", x.trial(0, 1, 0, 50), 3);
            tell(x, 3, 0, -1);
            Checks.due("UPHELD", x.trial(0, 3, 0, 50), 2);
            tell(x, 2, 0, -1);
        }
    }

    private static void tell(AppealCourt x, int outcome, int restedWith, int struckAt) {
        Checks.due("what it gave", x.about(0), outcome);
        Checks.due("rested with", x.about(1), restedWith);
        Checks.due("where", x.about(2), struckAt);
        Checks.due("the objection", x.chain(0, 0), outcome == 1 || outcome == 2 ? 0 : -1);
    }

    /** "NOTE k of the latest trial, from 0 on; 0 if there is none such." */
    private static void noteBounds() {
        AppealCourt x = Checks.court("hearing h(n) { while n { note n + 1000; n = n - 1; } }");
        for (int n : new int[] {200, 3, 1, 0, 2}) {
            x.trial(0, n, 0, 999);
            for (int k : new int[] {-2, -1, 0, 1, 2, 3, 4, 198, 199, 200, 201}) {
                Checks.due("note(" + k + ") of " + n, x.note(k), k >= 0 && k < n ? n - k + 1000 : 0);
            }
            for (int k : BEYOND) {
                Checks.due("note(" + k + ") of " + n, x.note(k), 0);
            }
        }
    }

    /** "what 0: KIND, .. 6: WEIGHT; 0 for others. If there is none such, NONE for 0, 0 for others." */
    private static void chainBounds() {
        AppealCourt x = Checks.court("hearing h(n) { hold X = Late(1, 2); while n { hold X = Late(n, 2) because X; n = n - 1; } raise X; }");
        Checks.nothingInChain("ahead of any trial", x, 0);
        x.trial(0, 1, 0, 99);
        Checks.inChain("itself", x, 0, 2, 1, 2, 2, 55, 1, 13);
        Checks.inChain("its CAUSE", x, 1, 2, 1, 2, 1, 24, 0, 13);
        for (int i : new int[] {-2, -1, 2, 3, 48, 49, 50, 51}) {
            Checks.nothingInChain("none such", x, i);
        }
        for (int i : BEYOND) {
            Checks.nothingInChain("none such", x, i);
        }
        for (int what : new int[] {-2, -1, 7, 8, 9}) {
            Checks.due("chain(0, " + what + ")", x.chain(0, what), 0);
            Checks.due("chain(2, " + what + ")", x.chain(2, what), 0);
        }
        for (int what : BEYOND) {
            Checks.due("chain(1, " + what + ")", x.chain(1, what), 0);
            Checks.due("chain(-1, " + what + ")", x.chain(-1, what), 0);
        }
    }

    /** "Likewise of the CHAIN of an instance's COMPLAINT." */
    private static void complaintBounds() {
        AppealCourt x = new AppealCourt();
        for (int instance = -2; instance <= 4; instance++) {
            for (int what = -1; what <= 7; what++) {
                Checks.due("without a COMPLAINT", x.complaint(instance, 0, what), what == 0 ? -1 : 0);
            }
        }
        for (int instance = 0; instance < 3; instance++) {
            x.complain(instance, instance + 4, 10 * instance);
        }
        for (int instance = -2; instance <= 4; instance++) {
            boolean there = instance >= 0 && instance <= 2;
            int[] weights = {0, 25, 60};
            int[] due = there ? new int[] {instance + 4, 10 * instance, 0, instance + 1, -1, 0, weights[instance]} : new int[] {-1, 0, 0, 0, 0, 0, 0};
            for (int what = 0; what < 7; what++) {
                Checks.due("complaint(" + instance + ", 0, " + what + ")", x.complaint(instance, 0, what), due[what]);
                Checks.due("complaint(" + instance + ", 1, " + what + ")", x.complaint(instance, 1, what), what == 0 ? -1 : 0);
                Checks.due("complaint(" + instance + ", -1, " + what + ")", x.complaint(instance, -1, what), what == 0 ? -1 : 0);
            }
            Checks.due("what -1", x.complaint(instance, 0, -1), 0);
            Checks.due("what 7", x.complaint(instance, 0, 7), 0);
        }
        for (int bad : BEYOND) {
            Checks.due("instance " + bad, x.complaint(bad, 0, 0), -1);
            Checks.due("i " + bad, x.complaint(1, bad, 0), -1);
            Checks.due("what " + bad, x.complaint(1, 0, bad), 0);
        }
    }
}
