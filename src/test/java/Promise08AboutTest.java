/** Promise 8: about. */
final class Promise08AboutTest {
    private static final String PROMISE = "Promise 8, about";
    private static final int[] FACTS = {3, 6, 3, 11, 4};
    /** Numbers that no thing has, among them such that a multiplied or added index would wrap around. */
    static final int[] OUTSIDE = {-1, -2, -48, 48, 49, 65536, 1 << 28, 1 << 29, 1 << 30, -(1 << 30),
        Integer.MIN_VALUE, Integer.MIN_VALUE + 1, Integer.MAX_VALUE - 1, Integer.MAX_VALUE,
        390451573, 1431655766, 715827883};

    public static void main(String[] args) {
        SceneText x = new SceneText();
        Check.taken(x, Texts.WHOLE);
        Check.sentence(PROMISE, "textures: 0 side, 1 wrap, 2 soft");
        Whole.textures(x);
        Check.sentence(PROMISE, "materials: 0 .. 3 colour, 4 texture, 5 both");
        Whole.materials(x);
        Check.sentence(PROMISE, "meshes: 0 material, 1 how many points, 2 how many faces");
        Whole.meshes(x);
        Check.sentence(PROMISE, "nodes: 0 parent, 1 mesh, 2 .. 4 move, 5 .. 7 turn, 8 .. 10 size");
        Whole.nodes(x);
        Check.sentence(PROMISE, "tracks: 0 node, 1 what, 2 how, 3 how many keys");
        Whole.tracks(x);
        noSuchKind();
        noSuchThing();
        noSuchNumber();
        noLongerThere();
        fullestCounts();
        Check.finish();
    }

    private static void noSuchKind() {
        Check.sentence(PROMISE, "0 if there is none such (what)");
        SceneText x = new SceneText();
        Check.taken(x, Texts.WHOLE);
        int[] others = {-1, 5, 6, 7, 1 << 30, Integer.MIN_VALUE, Integer.MAX_VALUE};
        for (int what : others) {
            for (int which = 0; which < 4; which++) {
                Check.due("about " + what + " 0 " + which, 0, x.about(what, 0, which));
                Check.due("about " + what + " 1 " + which, 0, x.about(what, 1, which));
            }
        }
    }

    private static void noSuchThing() {
        Check.sentence(PROMISE, "0 if there is none such (k)");
        for (int what = 0; what < 5; what++) {
            SceneText x = new SceneText();
            Check.taken(x, Texts.WHOLE);
            for (int which = 0; which < FACTS[what]; which++) {
                Check.due("about " + what + " behind the last, " + which, 0,
                    x.about(what, Whole.COUNTS[what], which));
                Check.due("about " + what + " -1 " + which, 0, x.about(what, -1, which));
            }
            for (int k : OUTSIDE) {
                Check.due("about " + what + " " + k + " 0", 0, x.about(what, k, 0));
                Check.due("about " + what + " " + k + " 2", 0, x.about(what, k, 2));
            }
        }
        for (int what = 0; what < 5; what++) {
            SceneText x = new SceneText();
            Check.taken(x, Fullest.behindAFullKind(what));
            for (int which = 0; which < FACTS[what]; which++) {
                Check.due("about " + what + " before the first, " + which, 0, x.about(what, -1, which));
                Check.due("about " + what + " behind the only one, " + which, 0, x.about(what, 1, which));
            }
        }
        // Behind the most that there can be of each kind the things of the next kind may lie.
        for (int what = 0; what < 5; what++) {
            SceneText x = new SceneText();
            Check.taken(x, Texts.full(what, Texts.MOST[what]) + "]}");
            for (int which = 0; which < FACTS[what]; which++) {
                Check.due("about " + what + " behind the last of all, " + which, 0,
                    x.about(what, Texts.MOST[what], which));
            }
        }
    }

    private static void noLongerThere() {
        Check.sentence(PROMISE, "0 if there is none such (k, of which an earlier scene had one)");
        for (int what = 0; what < 5; what++) {
            SceneText x = new SceneText();
            for (int things : new int[] {5, 4, 2}) {
                Check.taken(x, Texts.full(what, things) + "]}");
            }
            for (int k = 2; k < 5; k++) {
                for (int which = 0; which < FACTS[what]; which++) {
                    Check.due("about " + what + " " + k + " " + which, 0, x.about(what, k, which));
                }
            }
        }
    }

    private static void noSuchNumber() {
        Check.sentence(PROMISE, "0 if there is none such (which)");
        for (int what = 0; what < 5; what++) {
            SceneText x = new SceneText();
            Check.taken(x, Texts.WHOLE);
            for (int k = 0; k < Whole.COUNTS[what]; k++) {
                for (int which = FACTS[what]; which < FACTS[what] + 12; which++) {
                    Check.due("about " + what + " " + k + " " + which, 0, x.about(what, k, which));
                }
                for (int which : OUTSIDE) {
                    Check.due("about " + what + " " + k + " " + which, 0, x.about(what, k, which));
                }
            }
        }
    }

    private static void fullestCounts() {
        Check.sentence(PROMISE, "how many points, how many faces, how many keys (1, and the most)");
        SceneText x = new SceneText();
        Check.taken(x, Texts.SHORT);
        Check.due("points", 1, x.about(2, 0, 1));
        Check.due("faces", 1, x.about(2, 0, 2));
        Check.due("keys", 1, x.about(4, 0, 3));
        Check.taken(x, Texts.OPENED[2] + Fullest.mesh(128, 128) + "]}");
        Check.due("points", 128, x.about(2, 0, 1));
        Check.due("faces", 128, x.about(2, 0, 2));
        Check.taken(x, Texts.OPENED[2] + Fullest.mesh(127, 2) + "]}");
        Check.due("points", 127, x.about(2, 0, 1));
        Check.due("faces", 2, x.about(2, 0, 2));
        Check.taken(x, Texts.OPENED[4] + Fullest.track(32) + "]}");
        Check.due("keys", 32, x.about(4, 0, 3));
    }
}
