/** Promise 2: feed, and the tape's limit. */
final class Promise02FeedTest {
    private static final String PROMISE = "Promise 2, feed";
    private static final int BLANKS = 0x20202020;

    public static void main(String[] args) {
        twentyBytesCome();
        everyByteComesAsItIs();
        highestFirst();
        fullTapeRefuses();
        refusedFeedChangesNothing();
        tapeHasAtMost65536();
        roomForAllCalls();
        Check.finish();
    }

    private static boolean feedBlanks(SceneText x) {
        return x.feed(BLANKS, BLANKS, BLANKS, BLANKS, BLANKS);
    }

    /**
     * An object with so many blanks on its tape: a full tape lies beyond an object's 512 calls, where
     * what the document says can only be held as far as the class goes on as before.
     */
    static SceneText blanks(int n) {
        SceneText x = new SceneText();
        for (int fed = 20; fed <= n; fed += 20) {
            feedBlanks(x);
        }
        if (n % 20 != 0) {
            x.end(Math.max(n - 20, 0));
            feedBlanks(x);
            x.end(n);
        }
        return x;
    }

    private static void twentyBytesCome() {
        Check.sentence(PROMISE, "Twenty bytes come to the tape");
        SceneText x = new SceneText();
        int[] numbers = {0, -1, 1, Integer.MIN_VALUE, Integer.MAX_VALUE};
        for (int i = 0; i < numbers.length; i++) {
            int a = numbers[i];
            Check.due("feed of " + a, true, x.feed(a, a, a, a, a));
            Check.due("size", 20 * i + 20, x.size());
        }
        // Behind those that are there already, whatever their number.
        for (int there = 0; there <= 45; there++) {
            SceneText y = blanks(there);
            Check.due("feed", true, y.feed(0x78787878, 0, 0, 0, 0));
            Check.due("size", there + 20, y.size());
            Check.dueError(y, 1, there, there + " blanks and an x");
        }
    }

    private static void everyByteComesAsItIs() {
        Check.sentence(PROMISE, "Twenty bytes come to the tape (each of the 256)");
        for (int b = 0; b < 256; b++) {
            SceneText x = new SceneText();
            x.feed(b << 24 | 0x7B7D20, BLANKS, BLANKS, BLANKS, BLANKS);
            boolean blank = b == 32 || b == 10 || b == 13 || b == 9;
            Check.dueError(x, blank ? 0 : 1, b == '{' ? 1 : 0, "byte " + b + " before {}");
        }
    }

    private static void highestFirst() {
        Check.sentence(PROMISE, "the highest of each int first");
        SceneText x = new SceneText();
        int[] blanks = {BLANKS, BLANKS, BLANKS, BLANKS, BLANKS};
        for (int i = 0; i < 20; i++) {
            int[] fed = blanks.clone();
            // The i-th byte alone is no blank but an x.
            fed[i / 4] ^= 0x58 << 24 - i % 4 * 8;
            x.feed(fed[0], fed[1], fed[2], fed[3], fed[4]);
            Check.dueError(x, 1, i, "an x at byte " + i);
        }
        x.feed(0x7B226E6F, 0x64657322, 0x3A5B5D7D, BLANKS, BLANKS);
        Check.dueError(x, 0, 0, "{\"nodes\":[]}");
    }

    private static void fullTapeRefuses() {
        Check.sentence(PROMISE, "false, changing nothing, if there is no room");
        for (int left = 0; left <= 40; left++) {
            SceneText x = blanks(65536 - left);
            Check.due("feed where " + left + " bytes are left", left >= 20, feedBlanks(x));
            Check.due("size", 65536 - left + (left >= 20 ? 20 : 0), x.size());
        }
    }

    private static void refusedFeedChangesNothing() {
        Check.sentence(PROMISE, "false, changing nothing");
        for (int left = 0; left < 20; left++) {
            SceneText x = blanks(65536 - left - 20);
            x.feed(BLANKS, BLANKS, BLANKS, BLANKS, 0x20207B7D);
            Check.due("feed", false, x.feed(0x78787878, 0x78787878, 0x78787878, 0x78787878, 0x78787878));
            Check.due("feed again", false, x.feed(0, 0, 0, 0, 0));
            Check.due("size", 65536 - left, x.size());
            Check.due("end of more", false, x.end(65536 - left + 1));
            Check.dueError(x, 0, 0, "a full tape that ends with {}");
        }
        SceneText y = blanks(65530);
        y.end(0);
        Check.feed(y, "{x");
        Check.loads(y);
        for (int i = 0; i < 3277; i++) {
            feedBlanks(y);
        }
        Check.due("error(1) behind a refused feed", 1, y.error(1));
        Check.due("view(6) behind a refused feed", 32, y.view(6));
    }

    private static void tapeHasAtMost65536() {
        Check.sentence("Terms", "THE TAPE has at most 65,536 bytes.");
        SceneText x = new SceneText();
        for (int i = 0; i < 3276; i++) {
            Check.due("feed " + i, true, feedBlanks(x));
        }
        Check.due("size", 65520, x.size());
        Check.due("feed of 20 where 16 are left", false, feedBlanks(x));
        Check.due("end", true, x.end(65517));
        Check.due("feed of 20 where 19 are left", false, feedBlanks(x));
        Check.due("end", true, x.end(65516));
        Check.due("feed of 20 where 20 are left", true, x.feed(BLANKS, BLANKS, BLANKS, BLANKS, 0x2020207B));
        Check.due("size", 65536, x.size());
        Check.due("feed to the full tape", false, feedBlanks(x));
        Check.dueError(x, 1, 65536, "a full tape that ends with {");
        Check.due("size", 0, x.size());
        Check.due("feed to the tape that a load has emptied", true, feedBlanks(x));
    }

    private static void roomForAllCalls() {
        Check.sentence("What it is", "An object is used for at most 512 calls after it has been made");
        SceneText x = new SceneText();
        for (int i = 0; i < 509; i++) {
            Check.due("feed " + i, true, feedBlanks(x));
        }
        Check.due("feed", true, x.feed(0x7B7D2020, BLANKS, BLANKS, BLANKS, BLANKS));
        Check.due("size, call 511", 10200, x.size());
        Check.due("load, call 512", true, Check.loads(x));
    }
}
