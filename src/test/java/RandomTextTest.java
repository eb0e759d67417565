import java.util.ArrayList;
import java.util.List;
import java.util.Random;

/**
 * Random texts, right ones and ones with a few changes, held against the oracle; the seed is fixed.
 * Loads, probes and the longest text are such that no object is used for more than 512 calls.
 */
final class RandomTextTest {
    private static final int OBJECTS = 3000;
    private static final int LOADS = 3;
    private static final int PROBES = 25;
    private static final int LONGEST = 1200;
    private static final String CHARACTERS = "{}[]:,\"-0123456789 \n\r\tax.\0\u00ff";
    private static final String[] NUMBERS = {"-1", "0", "1", "2", "3", "7", "8", "32", "255", "256", "512",
        "513", "65536", "65537", "-65536", "-65537", "131072", "131073", "1000000", "1000001", "1048576",
        "1048577", "-1048576", "-1048577", "4194304", "4194305", "-4194304", "-4194305", "2147483648",
        "4294967296", "-4294967295", "00", "-0", "001"};
    private static final Random RANDOM = new Random(20261115);
    private static int taken = 0;
    private static final int[] REFUSED = new int[4];

    public static void main(String[] args) {
        Check.sentence("Promises 2 to 10", "(random texts, against the oracle)");
        for (int i = 0; i < OBJECTS; i++) {
            oneObject();
        }
        // The texts are worth something only if every outcome comes often.
        Check.due("texts taken often", true, taken > 500);
        for (int what = 1; what <= 3; what++) {
            Check.due("texts refused often with " + what, true, REFUSED[what] > 300);
        }
        Check.finish();
    }

    private static void oneObject() {
        SceneText x = new SceneText();
        Oracle.Story story = Oracle.read("{}");
        for (int i = 0; i < LOADS; i++) {
            String text = changed(scene());
            Check.feed(x, text);
            int[] wrong = Oracle.wrong(text);
            if (wrong[0] == 0) {
                story = Oracle.read(text);
                taken++;
            } else {
                REFUSED[wrong[0]]++;
            }
            Check.dueError(x, wrong[0], wrong[1], text);
            for (int probe = 0; probe < PROBES; probe++) {
                probe(x, story, text);
            }
        }
    }

    private static void probe(SceneText x, Oracle.Story story, String text) {
        int what = below(7) - 1;
        int k = below(5) - 1;
        int list = below(6) - 1;
        int i = below(14) - 1;
        Check.due("count " + what + ": " + text, story.count(what), x.count(what));
        Check.due("about " + what + " " + k + " " + i + ": " + text, story.about(what, k, i),
            x.about(what, k, i));
        Check.due("at " + what + " " + k + " " + list + " " + i + ": " + text,
            story.at(what, k, list, i), x.at(what, k, list, i));
        Check.due("view " + i + ": " + text, story.view(i), x.view(i));
    }

    private static int below(int n) {
        return RANDOM.nextInt(n);
    }

    private static int from(int low, int high) {
        switch (below(4)) {
            case 0:
                return low;
            case 1:
                return high;
            default:
                return low + below(high - low + 1);
        }
    }

    private static String list(int n, int low, int high) {
        StringBuilder all = new StringBuilder("[");
        for (int i = 0; i < n; i++) {
            all.append(i == 0 ? "" : ",").append(from(low, high));
        }
        return all.append("]").toString();
    }

    private static String three(int limit) {
        return list(3, -limit, limit);
    }

    private static String texture() {
        int side = 1 << below(3);
        return "{'side':" + side + ",'wrap':" + from(0, 2) + ",'soft':" + from(0, 1) + ",'texels':"
            + list(3 * side * side, 0, 255) + "}";
    }

    private static String material(int textures) {
        return "{'colour':" + list(4, 0, 255) + ",'texture':" + from(-1, textures - 1) + ",'both':"
            + from(0, 1) + "}";
    }

    private static String mesh(int materials) {
        int points = 1 + below(3);
        return "{'material':" + from(0, materials - 1) + ",'points':" + list(3 * points, -1048576, 1048576)
            + ",'normals':" + list(3 * points, -65536, 65536) + ",'places':"
            + list(2 * points, -131072, 131072) + ",'faces':"
            + list(3 + 3 * below(3), 0, points - 1) + "}";
    }

    private static String node(int nodes, int meshes) {
        return "{'parent':" + from(-1, nodes - 1) + ",'mesh':" + from(-1, meshes - 1) + ",'move':"
            + three(4194304) + ",'turn':" + three(1048576) + ",'size':" + three(1048576) + "}";
    }

    private static String track(int nodes) {
        int what = below(3);
        int keys = 1 + below(3);
        int limit = what == 0 ? 4194304 : 1048576;
        StringBuilder times = new StringBuilder("[");
        int time = from(0, 10);
        for (int i = 0; i < keys; i++) {
            times.append(i == 0 ? "" : ",").append(time);
            time += from(1, 499990);
        }
        return "{'node':" + from(0, nodes - 1) + ",'what':" + what + ",'how':" + from(0, 2) + ",'times':"
            + times + "],'values':" + list(3 * keys, -limit, limit) + "}";
    }

    /** A right text, now and then with more things than there can be. */
    private static String scene() {
        int[] counts = new int[5];
        List<String> sections = new ArrayList<>();
        for (int kind = 0; kind < 5; kind++) {
            boolean possible = kind == 2 ? counts[1] > 0 : kind == 4 ? counts[3] > 0 : true;
            if (below(3) == 0) {
                continue;
            }
            int many = possible ? kind == 1 && below(20) == 0 ? 15 + below(4) : below(4) : 0;
            List<String> things = new ArrayList<>();
            for (int k = 0; k < many; k++) {
                things.add(kind == 0 ? texture() : kind == 1 ? material(counts[0])
                    : kind == 2 ? mesh(counts[1]) : kind == 3 ? node(k, counts[2]) : track(counts[3]));
            }
            counts[kind] = many;
            sections.add("'" + Oracle.SECTIONS[kind] + "':[" + String.join(",", things) + "]");
        }
        if (below(2) == 0) {
            sections.add("'camera':{'move':" + three(4194304) + ",'turn':" + three(1048576) + ",'focus':"
                + from(8, 512) + "}");
        }
        if (below(2) == 0) {
            sections.add("'light':{'toward':" + three(65536) + ",'ambient':" + from(0, 65536) + "}");
        }
        String text = Check.text("{" + String.join(",", sections) + "}");
        return text.length() > LONGEST ? text.substring(0, LONGEST) : text;
    }

    private static String changed(String text) {
        List<String> tokens = tokens(text);
        int changes = below(4) == 0 ? 0 : 1 + below(2);
        for (int i = 0; i < changes && !tokens.isEmpty(); i++) {
            change(tokens, below(tokens.size()));
        }
        if (below(3) == 0) {
            for (int i = 0; i < 20; i++) {
                tokens.add(below(tokens.size() + 1), " \n\r\t".substring(below(4)).substring(0, 1));
            }
        }
        return String.join("", tokens);
    }

    private static void change(List<String> tokens, int i) {
        String token = tokens.get(i);
        switch (below(7)) {
            case 0:
                tokens.remove(i);
                break;
            case 1:
                tokens.add(i, tokens.get(below(tokens.size())));
                break;
            case 2:
                tokens.set(i, tokens.get(below(tokens.size())));
                break;
            case 3:
                int place = below(token.length() + 1);
                tokens.set(i, token.substring(0, place) + CHARACTERS.charAt(below(CHARACTERS.length()))
                    + token.substring(place));
                break;
            case 4:
                if (below(3) == 0) {
                    tokens.subList(i, tokens.size()).clear();
                }
                break;
            default:
                changeNumber(tokens, i);
                break;
        }
    }

    /** The next number from i on is another one, or has one more before it, or goes with its comma. */
    private static void changeNumber(List<String> tokens, int i) {
        int k = i;
        while (k < tokens.size() && !tokens.get(k).matches("-?[0-9]+")) {
            k++;
        }
        if (k == tokens.size()) {
            return;
        }
        String number = NUMBERS[below(NUMBERS.length)];
        switch (below(3)) {
            case 0:
                tokens.set(k, number);
                break;
            case 1:
                tokens.set(k, number + "," + tokens.get(k));
                break;
            default:
                tokens.remove(k);
                if (k < tokens.size() && tokens.get(k).equals(",")) {
                    tokens.remove(k);
                }
                break;
        }
    }

    private static List<String> tokens(String text) {
        List<String> tokens = new ArrayList<>();
        int start = 0;
        for (int i = 1; i <= text.length(); i++) {
            boolean inside = i < text.length() && isInside(text.charAt(i - 1)) && isInside(text.charAt(i));
            if (!inside) {
                tokens.add(text.substring(start, i));
                start = i;
            }
        }
        return tokens;
    }

    private static boolean isInside(char c) {
        return "{}[]:,".indexOf(c) < 0;
    }
}
