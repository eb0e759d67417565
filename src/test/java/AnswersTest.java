/** Promises 7 to 10: what count, about, at and view tell of a scene, and of what is not there. */
final class AnswersTest {
    private static final int[] OUTSIDE = {-1, Integer.MIN_VALUE, Integer.MAX_VALUE};
    private static SceneText x;

    public static void main(String[] args) {
        x = new SceneText();
        Check.taken(x, Texts.WHOLE);
        counts();
        facts();
        lists();
        noSuchLists();
        views();
        x = new SceneText();
        Check.taken(x, Texts.WHOLE);
        noSuchFacts();
        Check.finish();
    }

    private static void counts() {
        int[] due = {2, 2, 2, 3, 2};
        for (int what = 0; what < 5; what++) {
            Check.due("count " + what, due[what], x.count(what));
        }
        Check.due("count 5", SceneText.NONE, x.count(5));
        for (int what : OUTSIDE) {
            Check.due("count " + what, SceneText.NONE, x.count(what));
        }
    }

    private static void dueFacts(int what, int k, int... due) {
        for (int which = 0; which < due.length; which++) {
            Check.due("about " + what + " " + k + " " + which, due[which], x.about(what, k, which));
        }
        Check.due("about " + what + " " + k + " behind the last", 0, x.about(what, k, due.length));
    }

    private static void facts() {
        dueFacts(0, 0, 2, 1, 0);
        dueFacts(0, 1, 1, 2, 1);
        dueFacts(1, 0, 0, 255, 3, 4, 1, 0);
        dueFacts(1, 1, 5, 6, 7, 8, -1, 1);
        dueFacts(2, 0, 1, 2, 3);
        dueFacts(2, 1, 0, 1, 1);
        dueFacts(3, 0, -1, 1, -4194304, 4194304, 30, -1048576, 1048576, 31, 32, -1048576, 1048576);
        dueFacts(3, 1, 0, -1, 33, 34, 35, 36, 37, 38, 39, 40, 41);
        dueFacts(3, 2, 1, 0, 42, 43, 44, 45, 46, 47, 48, 49, 50);
        dueFacts(4, 0, 2, 1, 2, 2);
        dueFacts(4, 1, 0, 0, 1, 1);
    }

    private static void noSuchFacts() {
        int[] counts = {2, 2, 2, 3, 2};
        for (int what = 0; what < 5; what++) {
            for (int which = 0; which < 11; which++) {
                Check.due("about behind the last", 0, x.about(what, counts[what], which));
            }
            for (int outside : OUTSIDE) {
                Check.due("about k " + outside, 0, x.about(what, outside, 0));
                Check.due("about which " + outside, 0, x.about(what, 0, outside));
                Check.due("about kind " + outside, 0, x.about(outside, 0, 0));
            }
        }
        Check.due("about kind 5", 0, x.about(5, 0, 0));
        Check.due("about kind 6", 0, x.about(6, 0, 0));
    }

    private static void dueList(int what, int k, int list, int... due) {
        for (int i = 0; i < due.length; i++) {
            Check.due("at " + what + " " + k + " " + list + " " + i, due[i], x.at(what, k, list, i));
        }
        Check.due("at behind the last", 0, x.at(what, k, list, due.length));
        for (int outside : OUTSIDE) {
            Check.due("at i " + outside, 0, x.at(what, k, list, outside));
        }
    }

    private static void lists() {
        dueList(0, 0, 0, 10, 11, 12, 13, 14, 15, 16, 17, 18, 19, 20, 21);
        dueList(0, 1, 0, 0, 255, 7);
        dueList(2, 0, 0, 1, 2, 3, 4, 5, 6);
        dueList(2, 0, 1, 7, 8, 9, 10, 11, 12);
        dueList(2, 0, 2, 13, 14, 15, 16);
        dueList(2, 0, 3, 0, 1, 0, 1, 1, 0, 0, 0, 1);
        dueList(2, 1, 0, -1048576, 1048576, 0);
        dueList(2, 1, 1, -65536, 65536, 1);
        dueList(2, 1, 2, -131072, 131072);
        dueList(2, 1, 3, 0, 0, 0);
        dueList(4, 0, 0, 0, 1000000);
        dueList(4, 0, 1, 51, 52, 53, 54, 55, -1048576);
        dueList(4, 1, 0, 60);
        dueList(4, 1, 1, -4194304, 4194304, 61);
    }

    private static void noSuchLists() {
        int[] lists = {1, 0, 4, 0, 2};
        int[] counts = {2, 2, 2, 3, 2};
        for (int what = 0; what < 5; what++) {
            for (int i = 0; i < 3; i++) {
                Check.due("at behind the last list", 0, x.at(what, 0, lists[what], i));
                Check.due("at behind the last thing", 0, x.at(what, counts[what], 0, i));
            }
            for (int outside : OUTSIDE) {
                Check.due("at list " + outside, 0, x.at(what, 0, outside, 0));
                Check.due("at k " + outside, 0, x.at(what, outside, 0, 0));
                Check.due("at kind " + outside, 0, x.at(outside, 0, 0, 0));
            }
        }
        Check.due("at kind 5", 0, x.at(5, 0, 0, 0));
    }

    private static void views() {
        int[] due = {70, 71, 72, 73, 74, 75, 512, 76, -65536, 65536, 65536};
        for (int i = 0; i < due.length; i++) {
            Check.due("view " + i, due[i], x.view(i));
        }
        Check.due("view 11", 0, x.view(11));
        for (int outside : OUTSIDE) {
            Check.due("view " + outside, 0, x.view(outside));
        }
    }
}
