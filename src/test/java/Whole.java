/** Every answer that is due of the scene Texts.WHOLE: some 190 calls in all. */
final class Whole {
    static final int[] COUNTS = {2, 2, 2, 3, 2};
    private static final int[] VIEW = {70, 71, 72, 73, 74, 75, 512, 76, -65536, 65536, 65536};

    private Whole() {
    }

    static void all(SceneText x) {
        counts(x);
        textures(x);
        materials(x);
        meshes(x);
        nodes(x);
        tracks(x);
        views(x);
    }

    static void counts(SceneText x) {
        for (int what = 0; what < 5; what++) {
            Check.due("count " + what, COUNTS[what], x.count(what));
        }
    }

    private static void facts(SceneText x, int what, int k, int... due) {
        for (int which = 0; which < due.length; which++) {
            Check.due("about " + what + " " + k + " " + which, due[which], x.about(what, k, which));
        }
        Check.due("about " + what + " " + k + " behind the last", 0, x.about(what, k, due.length));
    }

    private static void list(SceneText x, int what, int k, int list, int... due) {
        String name = "at " + what + " " + k + " " + list + " ";
        for (int i = 0; i < due.length; i++) {
            Check.due(name + i, due[i], x.at(what, k, list, i));
        }
        Check.due(name + "before the first", 0, x.at(what, k, list, -1));
        Check.due(name + "behind the last", 0, x.at(what, k, list, due.length));
    }

    static void textures(SceneText x) {
        facts(x, 0, 0, 2, 1, 0);
        facts(x, 0, 1, 1, 2, 1);
        list(x, 0, 0, 0, 10, 11, 12, 13, 14, 15, 16, 17, 18, 19, 20, 21);
        list(x, 0, 1, 0, 0, 255, 7);
    }

    static void materials(SceneText x) {
        facts(x, 1, 0, 0, 255, 3, 4, 1, 0);
        facts(x, 1, 1, 5, 6, 7, 8, -1, 1);
    }

    static void meshes(SceneText x) {
        facts(x, 2, 0, 1, 2, 3);
        facts(x, 2, 1, 0, 1, 1);
        list(x, 2, 0, 0, 1, 2, 3, 4, 5, 6);
        list(x, 2, 0, 1, 7, 8, 9, 10, 11, 12);
        list(x, 2, 0, 2, 13, 14, 15, 16);
        list(x, 2, 0, 3, 1, 0, 0, 1, 1, 0, 0, 0, 1);
        list(x, 2, 1, 0, -1048576, 1048576, 0);
        list(x, 2, 1, 1, -65536, 65536, 1);
        list(x, 2, 1, 2, -131072, 131072);
        list(x, 2, 1, 3, 0, 0, 0);
    }

    static void nodes(SceneText x) {
        facts(x, 3, 0, -1, 1, -4194304, 4194304, 30, -1048576, 1048576, 31, 32, -1048576, 1048576);
        facts(x, 3, 1, 0, -1, 33, 34, 35, 36, 37, 38, 39, 40, 41);
        facts(x, 3, 2, 1, 0, 42, 43, 44, 45, 46, 47, 48, 49, 50);
    }

    static void tracks(SceneText x) {
        facts(x, 4, 0, 2, 1, 2, 2);
        facts(x, 4, 1, 0, 0, 1, 1);
        list(x, 4, 0, 0, 0, 1000000);
        list(x, 4, 0, 1, 51, 52, 53, 54, 55, -1048576);
        list(x, 4, 1, 0, 60);
        list(x, 4, 1, 1, -4194304, 4194304, 61);
    }

    static void views(SceneText x) {
        for (int i = 0; i < VIEW.length; i++) {
            Check.due("view " + i, VIEW[i], x.view(i));
        }
    }
}
