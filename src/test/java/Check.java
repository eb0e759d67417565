import java.nio.charset.StandardCharsets;

/**
 * What the tests share: the sentence of the document that is being held, answers that are compared
 * with what it asks for, texts that are fed and loaded.
 */
final class Check {
    private static String sentence = "";
    private static boolean sentenceWasAsked = true;
    private static int wrong = 0;

    private Check() {
    }

    /** The answers from here on are held against these words of the document. */
    static void sentence(String where, String words) {
        sentenceIsAsked();
        sentence = where + " \"" + words + "\": ";
        sentenceWasAsked = false;
    }

    /** A sentence that no answer was held against would pass whatever the class does. */
    private static void sentenceIsAsked() {
        if (!sentenceWasAsked) {
            wrong++;
            System.out.println(sentence + "nothing was asked");
        }
    }

    static void due(String what, long want, long got) {
        sentenceWasAsked = true;
        if (want != got) {
            wrong++;
            System.out.println(sentence + what + " answered " + got + ", due is " + want);
        }
    }

    static void due(String what, boolean want, boolean got) {
        due(what, want ? 1 : 0, got ? 1 : 0);
    }

    /** In the tests' texts ' stands for the quote of a word. */
    static String text(String written) {
        return written.replace('\'', '"');
    }

    /** Puts the text on the tape, which must be empty. */
    static void feed(SceneText x, String text) {
        byte[] bytes = text.getBytes(StandardCharsets.ISO_8859_1);
        for (int i = 0; i < bytes.length; i += 20) {
            due("feed", true, x.feed(four(bytes, i), four(bytes, i + 4), four(bytes, i + 8),
                four(bytes, i + 12), four(bytes, i + 16)));
        }
        due("end", true, x.end(bytes.length));
    }

    private static int four(byte[] bytes, int from) {
        int four = 0;
        for (int i = from; i < from + 4; i++) {
            four = four << 8 | (i < bytes.length ? bytes[i] & 255 : 0);
        }
        return four;
    }

    /** Whether load took what is on the tape; the only way not to take it is an IllegalArgumentException. */
    static boolean loads(SceneText x) {
        try {
            x.load();
            return true;
        } catch (RuntimeException e) {
            due("load throws IllegalArgumentException", true, e.getClass() == IllegalArgumentException.class);
            return false;
        }
    }

    /** Loads what is on the tape and holds what error tells of it; nothing is wrong if what is 0. */
    static void dueError(SceneText x, int what, int where, String written) {
        due("load took " + written, what == 0, loads(x));
        due("error(0) of " + written, what, x.error(0));
        due("error(1) of " + written, where, x.error(1));
    }

    /** Loads a text that is right, with ' for a quote. */
    static void taken(SceneText x, String written) {
        feed(x, text(written));
        dueError(x, 0, 0, written);
    }

    static void taken(String written) {
        taken(new SceneText(), written);
    }

    /** Loads a text that is wrong at the byte behind the ^ in it, with ' for a quote. */
    static void refused(SceneText x, int what, String written) {
        int where = written.indexOf('^');
        feed(x, text(written.substring(0, where) + written.substring(where + 1)));
        dueError(x, what, where, written);
    }

    static void refused(int what, String written) {
        refused(new SceneText(), what, written);
    }

    /** The text n times, with commas between. */
    static String times(int n, String text) {
        StringBuilder all = new StringBuilder();
        for (int i = 0; i < n; i++) {
            all.append(i == 0 ? "" : ",").append(text);
        }
        return all.toString();
    }

    static void finish() {
        sentenceIsAsked();
        if (wrong != 0) {
            System.out.println(wrong + " answers are not as due");
            System.exit(1);
        }
    }
}
