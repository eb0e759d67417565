/** Promise 1: the first camera and light, no things, an empty tape. */
final class NewObjectTest {
    public static void main(String[] args) {
        SceneText x = new SceneText();
        Check.due("NONE", -1, SceneText.NONE);
        Check.due("size", 0, x.size());
        for (int what = 0; what < 5; what++) {
            Check.due("count " + what, 0, x.count(what));
            Check.due("about " + what, 0, x.about(what, 0, 0));
            Check.due("at " + what, 0, x.at(what, 0, 0, 0));
        }
        int[] first = {0, 0, 0, 0, 0, 0, 32, 0, 0, -65536, 16384};
        for (int i = 0; i < first.length; i++) {
            Check.due("view " + i, first[i], x.view(i));
        }
        Check.due("error(0)", 0, x.error(0));
        Check.due("error(1)", 0, x.error(1));
        objectsAreApart();
        Check.finish();
    }

    private static void objectsAreApart() {
        SceneText x = new SceneText();
        Check.taken(x, Texts.WHOLE);
        SceneText y = new SceneText();
        y.feed(1, 2, 3, 4, 5);
        Check.due("count of another", 0, y.count(3));
        Check.due("view of another", 32, y.view(6));
        Check.due("size of another", 0, x.size());
    }
}
