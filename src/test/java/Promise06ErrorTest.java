/** Promise 6: error; what is WRONG, and where, is held in TermsWrongTest. */
final class Promise06ErrorTest {
    private static final String PROMISE = "Promise 6, error";

    public static void main(String[] args) {
        latestLoad();
        whatWasWrong();
        atWhichByte();
        nothingWas();
        anotherWhat();
        Check.finish();
    }

    private static void latestLoad() {
        Check.sentence(PROMISE, "Of the latest load");
        SceneText x = new SceneText();
        Check.refused(x, 2, "{'camera':{'move':[0,0,0],'turn':[0,0,0],'focus':^7}}");
        Check.refused(x, 1, "{ ^");
        Check.refused(x, 3, "{'light':{'toward':[^]");
        x.feed(0x78787878, 0, 0, 0, 0);
        x.end(3);
        x.end(-1);
        x.end(4);
        Check.due("error(0) while the next text comes", 3, x.error(0));
        Check.due("error(1) while the next text comes", 20, x.error(1));
        x.count(9);
        x.about(9, 9, 9);
        x.at(9, 9, 9, 9);
        x.view(99);
        Check.due("error(0) behind questions", 3, x.error(0));
        Check.due("error(0) asked again", 3, x.error(0));
        Check.dueError(x, 1, 0, "xxx");
        Check.taken(x, "{}");
    }

    private static void whatWasWrong() {
        Check.sentence(PROMISE, "what 0: what was WRONG, 1 .. 3");
        SceneText x = new SceneText();
        Check.refused(x, 1, "{'light':{'toward':[1,2,3],'ambient':^]");
        Check.refused(x, 2, "{'light':{'toward':[1,2,3],'ambient':^65537");
        Check.refused(x, 3, "{'light':{'toward':[1,2,3,^65537");
    }

    private static void atWhichByte() {
        Check.sentence(PROMISE, "1: at which byte, from 0 on");
        for (int n = 0; n < 60; n++) {
            Check.refused(1, " ".repeat(n) + "^x");
            Check.refused(1, " ".repeat(n) + "^");
            Check.refused(1, "{}" + " ".repeat(n) + "^}");
        }
        Check.refused(1, " ".repeat(10000) + "^]");
        Check.refused(1, " ".repeat(10000) + "{^");
    }

    private static void nothingWas() {
        Check.sentence(PROMISE, "0 if nothing was");
        SceneText x = new SceneText();
        Check.due("error(0) before a load", 0, x.error(0));
        Check.due("error(1) before a load", 0, x.error(1));
        x.feed(0, 0, 0, 0, 0);
        Check.due("error(0) before a load", 0, x.error(0));
        x.end(0);
        Check.taken(x, "{}");
        Check.refused(x, 1, "{}   ^x");
        Check.taken(x, "  {}");
        Check.taken(x, Texts.WHOLE);
    }

    private static void anotherWhat() {
        Check.sentence(PROMISE, "what 0, 1 (the document tells nothing of another: 0)");
        SceneText x = new SceneText();
        int[] others = {-1, 2, 3, Integer.MIN_VALUE, Integer.MAX_VALUE};
        for (int what : others) {
            Check.due("error(" + what + ") before a load", 0, x.error(what));
        }
        Check.refused(x, 1, "   ^x");
        for (int what : others) {
            Check.due("error(" + what + ") behind a refused load", 0, x.error(what));
        }
    }
}
