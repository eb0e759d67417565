/** Promises 2, 3 and 4: feed, end and size. */
final class TapeTest {
    public static void main(String[] args) {
        bytesComeHighestFirst();
        feedGoesOnBehindTheCut();
        endCutsAndRefuses();
        highBytesAreNoTokens();
        fullTape();
        Check.finish();
    }

    private static void bytesComeHighestFirst() {
        SceneText x = new SceneText();
        // Each int is the text of four bytes; what stands on the tape is seen by where load stops.
        Check.due("feed", true, x.feed(0x20202020, 0x20202020, 0x20202020, 0x20202020, 0x207B7D78));
        Check.due("size", 20, x.size());
        Check.due("loads", false, Check.loads(x));
        Check.due("error(0)", 1, x.error(0));
        Check.due("error(1)", 19, x.error(1));
        Check.due("feed", true, x.feed(0x7B202020, 0x20202020, 0x20202020, 0x20202020, 0x2020207D));
        Check.due("loads", true, Check.loads(x));
        int[] ints = {0x20202020, 0x20202020, 0x20202020, 0x20202020, 0x20202020};
        for (int i = 0; i < 20; i++) {
            int[] fed = ints.clone();
            fed[i / 4] ^= 0x58 << 24 - i % 4 * 8;
            x.feed(fed[0], fed[1], fed[2], fed[3], fed[4]);
            Check.due("loads", false, Check.loads(x));
            Check.due("error(1)", i, x.error(1));
        }
    }

    private static void feedGoesOnBehindTheCut() {
        SceneText x = new SceneText();
        for (int cut = 0; cut < 20; cut++) {
            x.feed(0x20202020, 0x20202020, 0x20202020, 0x20202020, 0x20202020);
            Check.due("end", true, x.end(cut));
            Check.due("size", cut, x.size());
            x.feed(0x78000000, 0, 0, 0, 0);
            Check.due("size", cut + 20, x.size());
            Check.due("loads", false, Check.loads(x));
            Check.due("error(1)", cut, x.error(1));
            Check.due("size", 0, x.size());
        }
    }

    private static void endCutsAndRefuses() {
        SceneText x = new SceneText();
        Check.due("end(0) of nothing", true, x.end(0));
        Check.due("end(1) of nothing", false, x.end(1));
        Check.due("end(-1) of nothing", false, x.end(-1));
        x.feed(1, 2, 3, 4, 5);
        Check.due("end(21)", false, x.end(21));
        Check.due("end(-1)", false, x.end(-1));
        Check.due("end(lowest)", false, x.end(Integer.MIN_VALUE));
        Check.due("end(highest)", false, x.end(Integer.MAX_VALUE));
        Check.due("size", 20, x.size());
        Check.due("end(20)", true, x.end(20));
        Check.due("size", 20, x.size());
        Check.due("end(19)", true, x.end(19));
        Check.due("size", 19, x.size());
        Check.due("end(20) of 19", false, x.end(20));
        Check.due("end(0)", true, x.end(0));
        Check.due("size", 0, x.size());
    }

    private static void highBytesAreNoTokens() {
        for (int b = 0; b < 256; b++) {
            SceneText x = new SceneText();
            x.feed(b << 24 | 0x7B7D20, 0x20202020, 0x20202020, 0x20202020, 0x20202020);
            boolean blank = b == 32 || b == 10 || b == 13 || b == 9;
            Check.due("loads behind byte " + b, blank, Check.loads(x));
            Check.due("error(0) of byte " + b, blank ? 0 : 1, x.error(0));
            Check.due("error(1) of byte " + b, b == '{' ? 1 : 0, x.error(1));
        }
    }

    /** The tape can't be filled within an object's 512 calls: this looks at what is free by then. */
    private static void fullTape() {
        SceneText x = new SceneText();
        for (int i = 0; i < 3276; i++) {
            Check.due("feed " + i, true, x.feed(0x20202020, 0x20202020, 0x20202020, 0x20202020, i));
        }
        Check.due("size", 65520, x.size());
        Check.due("feed of 20 to 16", false, x.feed(0, 0, 0, 0, 0));
        Check.due("size", 65520, x.size());
        Check.due("end", true, x.end(65517));
        Check.due("feed of 20 to 19", false, x.feed(0, 0, 0, 0, 0));
        Check.due("size", 65517, x.size());
        Check.due("end", true, x.end(65516));
        Check.due("feed of 20 to 20", true, x.feed(0, 0, 0, 0, 0));
        Check.due("size", 65536, x.size());
        Check.due("feed of 20 to 0", false, x.feed(0, 0, 0, 0, 0));
        Check.due("size", 65536, x.size());
    }
}
