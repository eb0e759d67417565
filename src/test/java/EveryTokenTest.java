import java.util.ArrayList;
import java.util.List;
import java.util.regex.Matcher;
import java.util.regex.Pattern;

/** Terms, WRONG: every token of a text goes, or is another one, or has another one before it. */
final class EveryTokenTest {
    private static final Pattern TOKEN = Pattern.compile("[{}\\[\\]:,]|\"[a-z]+\"|-?[0-9]+");
    private static final String[] OTHERS = {"{", "}", "[", "]", ":", ",", "\"nodes\"", "\"move\"", "\"", "0", "-1",
        "99999999", "-", "x"};
    /** So that an object, with the feeds of its texts, stays below 512 calls. */
    private static final int LOADS = 10;

    private static SceneText x = new SceneText();
    private static int loads = 0;

    public static void main(String[] args) {
        List<String> tokens = tokens(Check.text(Texts.SHORT));
        for (int i = 0; i < tokens.size(); i++) {
            Check.sentence("Terms, WRONG", "at the first token that is wrong (token " + i + ", changed)");
            String before = String.join("", tokens.subList(0, i));
            String behind = String.join("", tokens.subList(i + 1, tokens.size()));
            held(before + behind);
            for (String other : OTHERS) {
                held(before + other + behind);
                // A blank keeps two numbers from becoming one.
                held(before + other + " " + tokens.get(i) + behind);
                held(before + " " + other + " " + behind);
            }
        }
        Check.finish();
    }

    private static List<String> tokens(String text) {
        List<String> tokens = new ArrayList<>();
        Matcher matcher = TOKEN.matcher(text);
        while (matcher.find()) {
            tokens.add(matcher.group());
        }
        Check.due("the tokens are the whole text", true, text.equals(String.join("", tokens)));
        return tokens;
    }

    private static void held(String text) {
        if (loads == LOADS) {
            x = new SceneText();
            loads = 0;
        }
        loads++;
        int[] wrong = Oracle.wrong(text);
        Check.feed(x, text);
        Check.dueError(x, wrong[0], wrong[1], text);
    }
}
