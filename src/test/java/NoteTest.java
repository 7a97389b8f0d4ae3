/** Promise 9: note. */
public final class NoteTest {
    public static void main(String[] args) {
        AppealCourt x = Checks.court("hearing h(n) { let k = 0; while k < n { note k * k - 9; k = k + 1; } hold X = Any(1); note X; note Y; note X is Any; }");
        x.trial(0, 197, 0, 5000);
        Checks.due("NOTES", x.about(4), 200);
        for (int k = 0; k < 197; k++) {
            Checks.due("note(" + k + ")", x.note(k), k * k - 9);
        }
        Checks.due("a SERIAL", x.note(197), 1);
        Checks.due("of none", x.note(198), 0);
        Checks.due("the last", x.note(199), 1);
        for (int k : new int[] {200, 201, -1, Checks.MIN, Checks.MAX}) {
            Checks.due("note(" + k + ")", x.note(k), 0);
        }
        x.trial(0, 1, 0, 5000);
        Checks.notes("of the latest trial alone", x, -9, 2, 0, 1);
        Checks.due("none left behind them", x.note(10), 0);
        x.trial(0, 5, 0, 4);
        Checks.notes("of an ADJOURNED one", x, -9);
        x.trial(0, 5, 0, 0);
        Checks.notes("NONE changes nothing", x, -9);
        Checks.finish();
    }
}
