/** Promise 1: a new object. */
final class Promise01NewObjectTest {
    private static final String PROMISE = "Promise 1, SceneText";
    private static final int[] FIRST_VIEW = {0, 0, 0, 0, 0, 0, 32, 0, 0, -65536, 16384};

    public static void main(String[] args) {
        firstCameraAndLight();
        noThings();
        tapeIsEmpty();
        memoryIsItsOwn();
        none();
        Check.finish();
    }

    private static void firstCameraAndLight() {
        Check.sentence(PROMISE, "The first camera and light");
        dueFirstView(new SceneText());
        Check.sentence("Terms, a scene", "The first ones: 0 0 0, 0 0 0, 32; 0 0 -65536, 16384.");
        dueFirstView(new SceneText());
    }

    static void dueFirstView(SceneText x) {
        for (int i = 0; i < FIRST_VIEW.length; i++) {
            Check.due("view " + i, FIRST_VIEW[i], x.view(i));
        }
    }

    private static void noThings() {
        Check.sentence(PROMISE, "and no things");
        dueNoThings(new SceneText());
    }

    static void dueNoThings(SceneText x) {
        for (int what = 0; what < 5; what++) {
            Check.due("count " + what, 0, x.count(what));
            for (int which = 0; which < 11; which++) {
                Check.due("about " + what + " 0 " + which, 0, x.about(what, 0, which));
            }
            for (int list = 0; list < 4; list++) {
                Check.due("at " + what + " 0 " + list + " 0", 0, x.at(what, 0, list, 0));
            }
        }
    }

    private static void tapeIsEmpty() {
        Check.sentence(PROMISE, "the tape is empty");
        SceneText x = new SceneText();
        Check.due("size", 0, x.size());
        Check.due("end(1)", false, x.end(1));
        Check.due("end(0)", true, x.end(0));
        Check.dueError(x, 1, 0, "nothing");
    }

    private static void memoryIsItsOwn() {
        Check.sentence("Terms", "All memory is the reader's own, made once.");
        SceneText x = new SceneText();
        SceneText y = new SceneText();
        Check.taken(x, Texts.WHOLE);
        dueNoThings(y);
        dueFirstView(y);
        y.feed(0, 0, 0, 0, 0);
        Check.due("size of the one that was not fed", 0, x.size());
        Check.dueError(y, 1, 0, "no token");
        Check.due("error of the one that was not wrong", 0, x.error(0));
        Whole.all(x);
    }

    private static void none() {
        Check.sentence("Terms, the constants", "`NONE = -1`: Nothing there.");
        Check.due("NONE", -1, SceneText.NONE);
    }
}
