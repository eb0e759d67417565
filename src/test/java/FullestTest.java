import java.util.ArrayList;
import java.util.List;

/**
 * Promises 5, 8, 9: the fullest things side by side, every number of theirs held against the
 * oracle; what a longer text left behind is never read again.
 */
final class FullestTest {
    private static final int CALLS = 512;

    public static void main(String[] args) {
        allNumbers("{'textures':[" + texture(32) + "," + texture(16) + "]}");
        allNumbers("{'textures':[" + Check.times(7, Texts.TEXTURE) + "," + texture(32) + "],'materials':["
            + Check.times(3, "{'colour':[91,92,93,94],'texture':7,'both':1}") + "]}");
        allNumbers("{'materials':[" + Check.times(16, "{'colour':[91,92,93,94],'texture':-1,'both':1}")
            + "],'meshes':[" + mesh(128, 128) + "," + mesh(128, 127) + "]}");
        allNumbers("{'materials':[" + Texts.MATERIAL + "],'meshes':[" + Check.times(15, Texts.MESH) + ","
            + mesh(128, 128) + "],'nodes':[" + Texts.NODE + "]}");
        allNumbers("{'nodes':[" + Check.times(48, Texts.NODE) + "],'tracks':[" + track(32) + "," + track(31)
            + "," + track(32) + "]}");
        allNumbers("{'nodes':[" + Texts.NODE + "],'tracks':[" + Check.times(31, Texts.TRACK) + "," + track(32)
            + "]}");
        longerTextLeavesNothing();
        everyPrefix();
        Check.finish();
    }

    /** So many numbers, each other than its neighbours, from low on. */
    private static String numbers(int n, int low, int span) {
        StringBuilder all = new StringBuilder("[");
        for (int i = 0; i < n; i++) {
            all.append(i == 0 ? "" : ",").append(low + i % span);
        }
        return all.append("]").toString();
    }

    private static String texture(int side) {
        return "{'side':" + side + ",'wrap':2,'soft':1,'texels':" + numbers(3 * side * side, 1, 9) + "}";
    }

    private static String mesh(int points, int faces) {
        return "{'material':0,'points':" + numbers(3 * points, 1, 9) + ",'normals':" + numbers(3 * points, 2, 7)
            + ",'places':" + numbers(2 * points, 3, 5) + ",'faces':" + numbers(3 * faces, 1, 8) + "}";
    }

    private static String track(int keys) {
        return "{'node':0,'what':2,'how':1,'times':" + numbers(keys, 1, 99) + ",'values':"
            + numbers(3 * keys, 100, 150) + "}";
    }

    /** Asks for every number of the text's scene, by as many objects as 512 calls each allow. */
    private static void allNumbers(String written) {
        String text = Check.text(written);
        Oracle.Story story = Oracle.read(text);
        List<int[]> questions = questions(story);
        int perObject = CALLS - 5 - (text.length() + 19) / 20;
        Check.due("text fits into 512 calls", true, perObject > 50);
        for (int from = 0; from < questions.size(); from += perObject) {
            SceneText x = new SceneText();
            Check.feed(x, text);
            Check.due("taken", true, Check.loads(x));
            ask(x, story, questions.subList(from, Math.min(from + perObject, questions.size())));
        }
    }

    /** Questions of about have three numbers, those of at four. */
    private static List<int[]> questions(Oracle.Story story) {
        List<int[]> questions = new ArrayList<>();
        int[] facts = {3, 6, 3, 11, 4};
        for (int what = 0; what < 5; what++) {
            for (int k = 0; k < story.count(what); k++) {
                for (int which = 0; which < facts[what]; which++) {
                    questions.add(new int[] {what, k, which});
                }
                for (int list = 0; list < story.lists(what); list++) {
                    for (int i = 0; i <= story.length(what, k, list); i++) {
                        questions.add(new int[] {what, k, list, i});
                    }
                }
            }
        }
        return questions;
    }

    private static void ask(SceneText x, Oracle.Story story, List<int[]> questions) {
        for (int[] q : questions) {
            if (q.length == 3) {
                Check.due("about " + q[0] + " " + q[1] + " " + q[2], story.about(q[0], q[1], q[2]),
                    x.about(q[0], q[1], q[2]));
            } else {
                Check.due("at " + q[0] + " " + q[1] + " " + q[2] + " " + q[3],
                    story.at(q[0], q[1], q[2], q[3]), x.at(q[0], q[1], q[2], q[3]));
            }
        }
    }

    private static void longerTextLeavesNothing() {
        SceneText x = new SceneText();
        String longer = "{'textures':[" + texture(4) + "],'materials':[" + Texts.MATERIAL + "],'meshes':["
            + mesh(16, 16) + "],'nodes':[" + Texts.NODE + "],'tracks':[" + track(9) + "]}";
        String shorter = "{'textures':[" + texture(1) + "],'materials':[" + Texts.MATERIAL + "],'meshes':["
            + Texts.MESH + "],'nodes':[" + Texts.NODE + "],'tracks':[" + Texts.TRACK + "]}";
        Check.taken(x, longer);
        Check.taken(x, longer);
        Check.taken(x, shorter);
        int[][] lengths = {{0, 0, 3}, {2, 0, 3}, {2, 1, 3}, {2, 2, 2}, {2, 3, 3}, {4, 0, 1}, {4, 1, 3}};
        for (int[] list : lengths) {
            for (int i = list[2]; i < list[2] + 6; i++) {
                Check.due("at " + list[0] + " 0 " + list[1] + " " + i, 0, x.at(list[0], 0, list[1], i));
            }
        }
    }

    /** The text is cut behind every byte of it while the bytes behind the cut still lie on the tape. */
    private static void everyPrefix() {
        String text = Check.text(Texts.WHOLE) + " ";
        for (int n = 0; n < text.length() - 1; n++) {
            SceneText x = new SceneText();
            Check.feed(x, text);
            Check.due("end", true, x.end(n));
            int what = 0;
            int where = 0;
            try {
                Oracle.read(text.substring(0, n));
            } catch (Oracle.Wrong wrong) {
                what = wrong.what;
                where = wrong.where;
            }
            Check.due("taken to byte " + n, what == 0, Check.loads(x));
            Check.due("error(0) of the text to byte " + n, what, x.error(0));
            Check.due("error(1) of the text to byte " + n, where, x.error(1));
        }
    }
}
