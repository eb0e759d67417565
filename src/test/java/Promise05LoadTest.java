/** Promise 5: load. */
final class Promise05LoadTest {
    private static final String PROMISE = "Promise 5, load";

    public static void main(String[] args) {
        bytesAreTheScene();
        fromThenOn();
        tapeIsEmptyThen();
        howManyNodes();
        exceptionIfWrong();
        sceneStays();
        firstSceneStays();
        refusedPartsAreForgotten();
        Check.finish();
    }

    private static void bytesAreTheScene() {
        Check.sentence(PROMISE, "The tape's bytes are the scene");
        SceneText x = new SceneText();
        Check.taken(x, Texts.WHOLE);
        Whole.all(x);
    }

    private static void fromThenOn() {
        Check.sentence(PROMISE, "the scene from then on");
        SceneText x = new SceneText();
        Check.taken(x, Texts.WHOLE);
        Check.taken(x, "{'nodes':[" + Texts.NODE + "]}");
        Check.due("nodes", 1, x.count(3));
        Check.due("move of node 0", 1, x.about(3, 0, 2));
        Check.due("node 1, which is gone", 0, x.about(3, 1, 2));
        Check.taken(x, "{}");
        Promise01NewObjectTest.dueNoThings(x);
        Promise01NewObjectTest.dueFirstView(x);
        SceneText y = new SceneText();
        Check.taken(y, Texts.SHORT);
        Check.taken(y, "{}");
        Check.taken(y, Texts.WHOLE);
        y.feed(0x78787878, 0, 0, 0, 0);
        Whole.all(y);
    }

    private static void tapeIsEmptyThen() {
        Check.sentence(PROMISE, "(it is empty then)");
        SceneText x = new SceneText();
        Check.taken(x, "{}");
        Check.due("size behind a load", 0, x.size());
        Check.due("end(1) behind a load", false, x.end(1));
        Check.refused(x, 1, "^");
        Check.refused(x, 1, "{}    ^x");
        Check.due("size behind a refused load", 0, x.size());
        Check.due("end(1) behind a refused load", false, x.end(1));
        // The bytes of the next text are counted from 0 on again.
        Check.refused(x, 1, " ^x");
        Check.taken(x, "{ }");
    }

    private static void howManyNodes() {
        Check.sentence(PROMISE, "how many nodes");
        for (int n = 0; n <= 48; n++) {
            SceneText x = new SceneText();
            Check.feed(x, Check.text("{'nodes':[" + Check.times(n, Texts.NODE) + "]}"));
            Check.due("load of " + n + " nodes", n, load(x));
        }
        SceneText x = new SceneText();
        Check.feed(x, Check.text(Texts.WHOLE));
        Check.due("load of a whole scene", 3, load(x));
        Check.feed(x, "{}");
        Check.due("load of {}", 0, load(x));
    }

    private static int load(SceneText x) {
        try {
            return x.load();
        } catch (IllegalArgumentException e) {
            return -2;
        }
    }

    private static void exceptionIfWrong() {
        Check.sentence(PROMISE, "IllegalArgumentException if they are wrong");
        String[] wrong = {"", " ", "x", "{", "{}}", "{'nodes':[{'parent':0", "{'light':{'toward':[]",
            "{'light':{'toward':[1,2,3,4]", "\0", "\u00ff"};
        for (String written : wrong) {
            SceneText x = new SceneText();
            Check.feed(x, Check.text(written));
            Check.due("load took " + written, false, Check.loads(x));
        }
    }

    private static void sceneStays() {
        Check.sentence(PROMISE, "IllegalArgumentException if they are wrong (the scene stays)");
        // Wrong at the very end, so that all before it was read, and by each kind of wrong.
        String[] wrong = {Texts.SHORT + "^}", Texts.SHORT.replace("'ambient':10", "'ambient':^-1"),
            Texts.SHORT.replace("'toward':[7,8,9]", "'toward':[7,8,9,^1]")};
        for (int i = 0; i < wrong.length; i++) {
            SceneText x = new SceneText();
            Check.taken(x, Texts.WHOLE);
            Check.refused(x, i + 1, wrong[i]);
            Whole.all(x);
        }
        Check.sentence("What it is", "at its first wrong byte it is refused and changes nothing");
        SceneText x = new SceneText();
        Check.taken(x, Texts.WHOLE);
        Check.refused(x, 1, "^");
        Check.refused(x, 1, "{'nodes':[]^]");
        Check.refused(x, 2, "{'camera':{'move':[0,0,0],'turn':[0,0,0],'focus':^7");
        Check.refused(x, 3, "{'textures':[{'side':1,'wrap':0,'soft':0,'texels':[9,9,9,^9");
        Whole.all(x);
    }

    private static void firstSceneStays() {
        Check.sentence(PROMISE, "(the scene stays), the first one too");
        SceneText x = new SceneText();
        Check.refused(x, 1, Texts.SHORT + "^,");
        Promise01NewObjectTest.dueNoThings(x);
        Promise01NewObjectTest.dueFirstView(x);
    }

    private static void refusedPartsAreForgotten() {
        Check.sentence(PROMISE, "(the scene stays), and what was refused is in no later scene");
        SceneText x = new SceneText();
        Check.refused(x, 1, Texts.SHORT + "^,");
        Check.taken(x, "{}");
        Promise01NewObjectTest.dueNoThings(x);
        Promise01NewObjectTest.dueFirstView(x);
        Check.refused(x, 1, Texts.SHORT + "^,");
        Check.refused(x, 2, "{'tracks':[{'node':^0");
        Check.refused(x, 2, "{'meshes':[{'material':^0");
    }
}
