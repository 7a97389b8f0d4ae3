/** Promise 2: feed. */
public final class FeedTest {
    private static final int BLANKS = 0x20202020;

    public static void main(String[] args) {
        order();
        limit();
        behindARead();
        Checks.finish();
    }

    private static void order() {
        AppealCourt x = new AppealCourt();
        // "hear" "ing " "h(){" "rest" " 6;}"
        Checks.due("feed", x.feed(0x68656172, 0x696e6720, 0x6828297b, 0x72657374, 0x20363b7d), 20);
        Checks.due("read", x.read(20), 0);
        Checks.due("trial", x.trial(0, 0, 0, 5), 0);
        Checks.due("rested with", x.about(1), 6);
        Checks.due("high bytes are bytes, too", x.feed(-1, BLANKS, BLANKS, BLANKS, BLANKS), 20);
        Checks.due("read", x.read(20), 1);
        Checks.due("place", x.fault(1), 0);
        x.feed(BLANKS, BLANKS, BLANKS, BLANKS, 0x2020207f);
        Checks.due("byte 127 begins none", x.read(20), 1);
        Checks.due("its place", x.fault(1), 19);
    }

    private static void limit() {
        AppealCourt x = new AppealCourt();
        for (int i = 1; i <= 200; i++) {
            Checks.due("feed " + i, x.feed(BLANKS, BLANKS, BLANKS, BLANKS, i == 200 ? 0x20202021 : BLANKS), 20 * i);
        }
        Checks.due("4,020 bytes", x.feed(BLANKS, BLANKS, BLANKS, BLANKS, BLANKS), -1);
        Checks.due("4,020 bytes again", x.feed(0, 0, 0, 0, 0), -1);
        Checks.due("more than there are", x.read(4001), -1);
        Checks.due("all of them", x.read(4000), 1);
        Checks.due("the last byte", x.fault(1), 3999);
    }

    private static void behindARead() {
        AppealCourt x = new AppealCourt();
        Checks.feed(x, Checks.times(60, " "));
        Checks.due("some of them", x.read(20), 0);
        Checks.due("there are none then", x.read(1), -1);
        Checks.due("from the beginning", x.feed(BLANKS, BLANKS, BLANKS, BLANKS, 0), 20);
        Checks.due("a fault", x.read(20), 1);
        Checks.due("none behind a fault, too", x.feed(BLANKS, BLANKS, BLANKS, BLANKS, BLANKS), 20);
        Checks.due("NONE does nothing", x.read(21), -1);
        Checks.due("behind NONE", x.feed(BLANKS, BLANKS, BLANKS, BLANKS, BLANKS), 40);
    }
}
