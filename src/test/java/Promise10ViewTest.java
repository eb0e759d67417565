/** Promise 10: view. */
final class Promise10ViewTest {
    private static final String PROMISE = "Promise 10, view";

    public static void main(String[] args) {
        camera();
        light();
        both();
        anotherOne();
        Check.finish();
    }

    private static void due(SceneText x, int... due) {
        for (int i = 0; i < due.length; i++) {
            Check.due("view " + i, due[i], x.view(i));
        }
    }

    private static void camera() {
        Check.sentence(PROMISE, "Number i of the camera: 0 .. 2 move, 3 .. 5 turn, 6 focus");
        SceneText x = new SceneText();
        Check.taken(x, "{'camera':{'move':[-4194304,1,4194304],'turn':[-1048576,2,1048576],'focus':8}}");
        due(x, -4194304, 1, 4194304, -1048576, 2, 1048576, 8, 0, 0, -65536, 16384);
    }

    private static void light() {
        Check.sentence(PROMISE, "of the light: 7 .. 9 toward, 10 ambient");
        SceneText x = new SceneText();
        Check.taken(x, "{'light':{'toward':[-65536,3,65536],'ambient':0}}");
        due(x, 0, 0, 0, 0, 0, 0, 32, -65536, 3, 65536, 0);
    }

    private static void both() {
        Check.sentence(PROMISE, "Number i of the camera, of the light");
        SceneText x = new SceneText();
        Check.taken(x, Texts.WHOLE);
        Whole.views(x);
        Check.refused(x, 1, Texts.SHORT + "^,");
        Whole.views(x);
        Check.taken(x, Texts.SHORT);
        due(x, 1, 2, 3, 4, 5, 6, 8, 7, 8, 9, 10);
        Check.taken(x, "{}");
        due(x, 0, 0, 0, 0, 0, 0, 32, 0, 0, -65536, 16384);
    }

    private static void anotherOne() {
        Check.sentence(PROMISE, "0 for another one");
        SceneText x = new SceneText();
        int[] others = {-1, 11, 12, 13, 14, 100, 52034, 52035, 1 << 30, Integer.MIN_VALUE, Integer.MAX_VALUE};
        for (int i : others) {
            Check.due("view(" + i + ") of a new object", 0, x.view(i));
        }
        Check.taken(x, Texts.WHOLE);
        for (int i : others) {
            Check.due("view(" + i + ") of a whole scene", 0, x.view(i));
        }
    }
}
