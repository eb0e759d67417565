/** Promise 3: end. */
final class Promise03EndTest {
    private static final String PROMISE = "Promise 3, end";
    private static final int BLANKS = 0x20202020;

    public static void main(String[] args) {
        firstBytesStay();
        bytesBehindAreGone();
        falseIfItHasLess();
        falseBelowZero();
        falseChangesNothing();
        Check.finish();
    }

    private static void firstBytesStay() {
        Check.sentence(PROMISE, "The tape has its first n bytes alone: true");
        for (int n = 0; n <= 40; n++) {
            SceneText x = new SceneText();
            // An x at byte 7, 27: the first of them that is left is where the text is wrong.
            for (int i = 0; i < 2; i++) {
                x.feed(BLANKS, 0x20202078, BLANKS, BLANKS, BLANKS);
            }
            Check.due("end(" + n + ")", true, x.end(n));
            Check.due("size", n, x.size());
            Check.dueError(x, 1, Math.min(n, 7), "an x at byte 7, cut to " + n);
        }
    }

    private static void bytesBehindAreGone() {
        Check.sentence(PROMISE, "its first n bytes alone");
        SceneText x = new SceneText();
        x.feed(0x7B7D7878, 0x78787878, 0x78787878, 0x78787878, 0x78787878);
        Check.due("end(2)", true, x.end(2));
        Check.dueError(x, 0, 0, "{}");
        for (int n = 0; n < 20; n++) {
            x.feed(BLANKS, BLANKS, BLANKS, BLANKS, BLANKS);
            Check.due("end(" + n + ")", true, x.end(n));
            x.feed(0x78202020, BLANKS, BLANKS, BLANKS, BLANKS);
            Check.due("size", n + 20, x.size());
            Check.dueError(x, 1, n, n + " blanks and an x");
        }
        x.feed(0, 0, 0, 0, 0);
        x.feed(0, 0, 0, 0, 0);
        for (int n = 40; n >= 0; n -= 5) {
            Check.due("end(" + n + ") again", true, x.end(n));
            Check.due("end of what is there", true, x.end(n));
            Check.due("end of one that was cut", false, x.end(n + 1));
        }
    }

    private static void falseIfItHasLess() {
        Check.sentence(PROMISE, "false if it has less");
        SceneText x = new SceneText();
        Check.due("end(1) of 0", false, x.end(1));
        x.feed(0, 0, 0, 0, 0);
        Check.due("end(21) of 20", false, x.end(21));
        Check.due("end(20) of 20", true, x.end(20));
        Check.due("end(65536) of 20", false, x.end(65536));
        Check.due("end(65537) of 20", false, x.end(65537));
        Check.due("end(the highest) of 20", false, x.end(Integer.MAX_VALUE));
        Check.due("end(19) of 20", true, x.end(19));
        Check.due("end(20) of 19", false, x.end(20));
        Check.loads(x);
        Check.due("end(1) behind a load", false, x.end(1));
        Check.due("end(19) behind a load", false, x.end(19));
        Check.due("end(0) behind a load", true, x.end(0));
        SceneText y = Promise02FeedTest.blanks(65536);
        Check.due("end(65537) of 65536", false, y.end(65537));
        Check.due("end(65536) of 65536", true, y.end(65536));
    }

    private static void falseBelowZero() {
        Check.sentence(PROMISE, "or n is below 0");
        SceneText x = new SceneText();
        Check.due("end(-1) of 0", false, x.end(-1));
        x.feed(0, 0, 0, 0, 0);
        Check.due("end(-1) of 20", false, x.end(-1));
        Check.due("end(-20) of 20", false, x.end(-20));
        Check.due("end(the lowest) of 20", false, x.end(Integer.MIN_VALUE));
        Check.due("end(0) of 20", true, x.end(0));
    }

    private static void falseChangesNothing() {
        Check.sentence(PROMISE, "true; false (and then nothing changes)");
        int[] wrong = {-1, 21, Integer.MIN_VALUE, Integer.MAX_VALUE};
        for (int n : wrong) {
            SceneText x = new SceneText();
            x.feed(0x7B202020, BLANKS, BLANKS, BLANKS, 0x2020207D);
            Check.due("end(" + n + ")", false, x.end(n));
            Check.due("size", 20, x.size());
            Check.dueError(x, 0, 0, "{ and }");
        }
    }
}
