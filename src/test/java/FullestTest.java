import java.util.ArrayList;
import java.util.List;

/**
 * Promises 5, 8, 9: the fullest things side by side, every number of theirs held against the
 * oracle; and every prefix of a text.
 */
final class FullestTest {
    private static final int CALLS = 512;

    public static void main(String[] args) {
        Check.sentence("Promises 5, 8, 9", "The tape's bytes are the scene (the fullest things)");
        allNumbers("{'textures':[" + Fullest.texture(32) + "," + Fullest.texture(16) + "],'materials':["
            + Texts.MATERIAL + "]}");
        allNumbers("{'textures':[" + Check.times(7, Texts.TEXTURE) + "," + Fullest.texture(32) + "],'materials':["
            + Check.times(3, "{'colour':[91,92,93,94],'texture':7,'both':1}") + "]}");
        allNumbers("{'materials':[" + Check.times(16, "{'colour':[91,92,93,94],'texture':-1,'both':1}")
            + "],'meshes':[" + Fullest.mesh(128, 128) + "," + Fullest.mesh(128, 127) + "]}");
        allNumbers(Fullest.behindAFullKind(3));
        allNumbers(Texts.full(3, 48) + "],'tracks':[" + Fullest.track(32) + "," + Fullest.track(31) + ","
            + Fullest.track(32) + "]}");
        allNumbers(Texts.full(4, 31) + "," + Fullest.track(32) + "]}");
        Check.sentence("Terms, WRONG", "at the text's end, if one is missing (every prefix of a text)");
        everyPrefix();
        Check.finish();
    }

    /** Asks for every number of the text's scene, by as many objects as 512 calls each allow. */
    private static void allNumbers(String written) {
        String text = Check.text(written);
        Oracle.Story story = Oracle.read(text);
        List<int[]> questions = questions(story);
        int perObject = CALLS - 5 - (text.length() + 19) / 20;
        Check.due("text fits into 512 calls", true, perObject > 50);
        for (int from = 0; from < questions.size(); from += perObject) {
            SceneText x = new SceneText();
            Check.feed(x, text);
            Check.due("taken", true, Check.loads(x));
            ask(x, story, questions.subList(from, Math.min(from + perObject, questions.size())));
        }
    }

    /** Questions of about have three numbers, those of at four. */
    private static List<int[]> questions(Oracle.Story story) {
        List<int[]> questions = new ArrayList<>();
        int[] facts = {3, 6, 3, 11, 4};
        for (int what = 0; what < 5; what++) {
            for (int k = 0; k < story.count(what); k++) {
                for (int which = 0; which < facts[what]; which++) {
                    questions.add(new int[] {what, k, which});
                }
                for (int list = 0; list < story.lists(what); list++) {
                    for (int i = 0; i <= story.length(what, k, list); i++) {
                        questions.add(new int[] {what, k, list, i});
                    }
                }
            }
        }
        return questions;
    }

    private static void ask(SceneText x, Oracle.Story story, List<int[]> questions) {
        for (int[] q : questions) {
            if (q.length == 3) {
                Check.due("about " + q[0] + " " + q[1] + " " + q[2], story.about(q[0], q[1], q[2]),
                    x.about(q[0], q[1], q[2]));
            } else {
                Check.due("at " + q[0] + " " + q[1] + " " + q[2] + " " + q[3],
                    story.at(q[0], q[1], q[2], q[3]), x.at(q[0], q[1], q[2], q[3]));
            }
        }
    }

    /** The text is cut behind every byte of it while the bytes behind the cut still lie on the tape. */
    private static void everyPrefix() {
        String text = Check.text(Texts.WHOLE) + " ";
        for (int n = 0; n < text.length() - 1; n++) {
            SceneText x = new SceneText();
            Check.feed(x, text);
            Check.due("end", true, x.end(n));
            int[] wrong = Oracle.wrong(text.substring(0, n));
            Check.dueError(x, wrong[0], wrong[1], "the text to byte " + n);
        }
    }
}
