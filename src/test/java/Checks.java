import java.nio.ByteBuffer;
import java.nio.IntBuffer;
import java.nio.charset.StandardCharsets;
import java.util.Arrays;

/** What the tests share: texts into courts, and answers against those that are due. */
final class Checks {
    static final int MIN = Integer.MIN_VALUE;
    static final int MAX = Integer.MAX_VALUE;

    private static final int MAX_SHOWN = 300;
    private static int wrong = 0;
    private static int seen = 0;

    static void due(String what, long got, long want) {
        seen++;
        if (got != want) {
            wrong++;
            String shown = what.length() <= MAX_SHOWN ? what : what.substring(0, MAX_SHOWN) + "..";
            System.out.println(shown + " answered " + got + ", due is " + want);
        }
    }

    static void due(String what, boolean got, boolean want) {
        due(what, got ? 1 : 0, want ? 1 : 0);
    }

    /** Blanks fill up the last feed. */
    static void feed(AppealCourt court, String text) {
        byte[] bytes = text.getBytes(StandardCharsets.ISO_8859_1);
        byte[] filled = Arrays.copyOf(bytes, (bytes.length + 19) / 20 * 20);
        Arrays.fill(filled, bytes.length, filled.length, (byte) 32);
        IntBuffer ints = ByteBuffer.wrap(filled).asIntBuffer();
        while (ints.hasRemaining()) {
            court.feed(ints.get(), ints.get(), ints.get(), ints.get(), ints.get());
        }
    }

    static int read(AppealCourt court, String text) {
        feed(court, text);
        return court.read(text.length());
    }

    static AppealCourt court(String text) {
        AppealCourt court = new AppealCourt();
        due("read of " + text, read(court, text), 0);
        return court;
    }

    /** A text's fault, its place told by a '^' ahead of it, which is taken out of the text. */
    static void faulty(int fault, String marked) {
        int place = marked.indexOf('^');
        String text = marked.substring(0, place) + marked.substring(place + 1);
        AppealCourt court = new AppealCourt();
        due("read of " + marked, read(court, text), fault);
        due("fault(0) of " + marked, court.fault(0), fault);
        due("fault(1) of " + marked, court.fault(1), place);
    }

    static void good(String text) {
        AppealCourt court = court(text);
        due("fault(0) of " + text, court.fault(0), 0);
        due("fault(1) of " + text, court.fault(1), -1);
    }

    /** The NOTES of the latest trial are these, and no more. */
    static void notes(String what, AppealCourt court, int... want) {
        due(what + ": NOTES", court.about(4), want.length);
        for (int k = 0; k < want.length; k++) {
            due(what + ": note(" + k + ")", court.note(k), want[k]);
        }
        due(what + ": the note behind them", court.note(want.length), 0);
    }

    /** A hearing of these statements is tried without policies: what it gives, and its NOTES. */
    static AppealCourt tried(int outcome, String statements, int... want) {
        AppealCourt court = court("hearing h(a, b) { " + statements + " }");
        due("trial of " + statements, court.trial(0, 7, 2, 5000), outcome);
        notes(statements, court, want);
        return court;
    }

    /** Of the i-th of the CHAIN: KIND, GROUND, DAYS, SERIAL, PLACE, SETTLED, WEIGHT, or the first of these. */
    static void inChain(String what, AppealCourt court, int i, int... want) {
        for (int k = 0; k < want.length; k++) {
            due(what + ": chain(" + i + ", " + k + ")", court.chain(i, k), want[k]);
        }
    }

    static void nothingInChain(String what, AppealCourt court, int i) {
        inChain(what, court, i, -1, 0, 0, 0, 0, 0, 0);
    }

    static String times(int n, String s) {
        return s.repeat(n);
    }

    static void finish() {
        System.out.println(seen + " answers, " + wrong + " of them not as due");
        if (wrong != 0 || seen == 0) {
            System.exit(1);
        }
    }
}
