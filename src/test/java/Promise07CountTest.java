/** Promise 7: count. */
final class Promise07CountTest {
    private static final String PROMISE = "Promise 7, count";
    private static final String[] KINDS =
        {"0: textures", "1: materials", "2: meshes", "3: nodes", "4: tracks"};

    public static void main(String[] args) {
        for (int what = 0; what < 5; what++) {
            howMany(what);
        }
        refusedOneTooMany();
        noneForAnother();
        Check.finish();
    }

    /** From none to as many as there can be, and back to none. */
    private static void howMany(int what) {
        Check.sentence(PROMISE, "How many there are, what " + KINDS[what]);
        SceneText x = new SceneText();
        Check.taken(x, Texts.WHOLE);
        Check.due("count " + what + " of a whole scene", Whole.COUNTS[what], x.count(what));
        for (int n = 0; n <= Texts.MOST[what]; n++) {
            SceneText y = new SceneText();
            Check.taken(y, Texts.full(what, n) + "]}");
            Check.due("count " + what, n, y.count(what));
        }
        Check.taken(x, "{}");
        Check.due("count " + what + " of {}", 0, x.count(what));
    }

    private static void refusedOneTooMany() {
        Check.sentence(PROMISE, "How many there are (behind a refused load: as many as before)");
        for (int what = 0; what < 5; what++) {
            SceneText x = new SceneText();
            Check.taken(x, Texts.full(what, 1) + "]}");
            Check.refused(x, 3, Texts.full(what, Texts.MOST[what]) + ",^" + Texts.THINGS[what]);
            Check.due("count " + what, 1, x.count(what));
        }
    }

    private static void noneForAnother() {
        Check.sentence(PROMISE, "NONE for another what");
        SceneText x = new SceneText();
        int[] others = {-1, 5, 6, 7, 256, -5, 1 << 30, Integer.MIN_VALUE, Integer.MAX_VALUE};
        for (int what : others) {
            Check.due("count(" + what + ") of a new object", SceneText.NONE, x.count(what));
        }
        Check.taken(x, Texts.WHOLE);
        for (int what : others) {
            Check.due("count(" + what + ") of a whole scene", SceneText.NONE, x.count(what));
        }
    }
}
