/** Promise 4: size. */
final class Promise04SizeTest {
    private static final String PROMISE = "Promise 4, size";

    public static void main(String[] args) {
        howManyBytes();
        emptyAndFull();
        behindRefusedCalls();
        Check.finish();
    }

    private static void howManyBytes() {
        Check.sentence(PROMISE, "How many bytes the tape has.");
        SceneText x = new SceneText();
        for (int i = 1; i <= 100; i++) {
            x.feed(0, 0, 0, 0, 0);
            Check.due("size behind feed " + i, 20 * i, x.size());
        }
        x.end(1999);
        Check.due("size behind end(1999)", 1999, x.size());
        x.feed(0, 0, 0, 0, 0);
        Check.due("size behind a feed more", 2019, x.size());
        Check.due("size asked again", 2019, x.size());
    }

    private static void emptyAndFull() {
        Check.sentence(PROMISE, "How many bytes the tape has (empty, full)");
        SceneText x = new SceneText();
        Check.due("size of a new object", 0, x.size());
        x.feed(0x7B7D2020, 0x20202020, 0x20202020, 0x20202020, 0x20202020);
        x.end(0);
        Check.due("size behind end(0)", 0, x.size());
        x.feed(0x7B7D2020, 0x20202020, 0x20202020, 0x20202020, 0x20202020);
        Check.loads(x);
        Check.due("size behind a load", 0, x.size());
        x.feed(0, 0, 0, 0, 0);
        Check.loads(x);
        Check.due("size behind a refused load", 0, x.size());
        Check.due("size of a full tape", 65536, Promise02FeedTest.blanks(65536).size());
    }

    private static void behindRefusedCalls() {
        Check.sentence(PROMISE, "How many bytes the tape has (behind refused calls)");
        SceneText x = new SceneText();
        x.end(1);
        Check.due("size behind end(1) of nothing", 0, x.size());
        x.feed(0, 0, 0, 0, 0);
        x.end(21);
        Check.due("size behind end(21) of 20", 20, x.size());
        x.end(-1);
        Check.due("size behind end(-1)", 20, x.size());
        SceneText y = Promise02FeedTest.blanks(65517);
        y.feed(0, 0, 0, 0, 0);
        Check.due("size behind a refused feed", 65517, y.size());
    }
}
