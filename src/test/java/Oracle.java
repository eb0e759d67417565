import java.math.BigInteger;
import java.util.ArrayList;
import java.util.LinkedHashMap;
import java.util.List;
import java.util.Map;
import java.util.regex.Matcher;
import java.util.regex.Pattern;

/**
 * A second reader, written from the document in another way (all tokens first, then tables), to
 * hold the class against. A refused text is a Wrong; a taken one is a Story.
 */
final class Oracle {
    static final String[] SECTIONS =
        {"textures", "materials", "meshes", "nodes", "tracks", "camera", "light"};
    private static final Pattern TOKEN =
        Pattern.compile("[ \\n\\r\\t]+|[{}\\[\\]:,]|\"[a-z]+\"|-?[0-9]+");
    private static final int[] MOST = {8, 16, 16, 48, 32};
    private static final String[] PARTS = {
        "side wrap soft texels[]", "colour[] texture both",
        "material points[] normals[] places[] faces[]", "parent mesh move[] turn[] size[]",
        "node what how times[] values[]", "move[] turn[] focus", "toward[] ambient"};

    static final class Wrong extends RuntimeException {
        private static final long serialVersionUID = 1;
        final int what;
        final int where;

        Wrong(int what, int where) {
            this.what = what;
            this.where = where;
        }
    }

    /** What a text tells: every thing by its parts' names. */
    static final class Story {
        final List<List<Map<String, int[]>>> things = new ArrayList<>();
        Map<String, int[]> camera = new LinkedHashMap<>();
        Map<String, int[]> light = new LinkedHashMap<>();

        Story() {
            for (int i = 0; i < 5; i++) {
                things.add(new ArrayList<>());
            }
            camera.put("move", new int[3]);
            camera.put("turn", new int[3]);
            camera.put("focus", new int[] {32});
            light.put("toward", new int[] {0, 0, -65536});
            light.put("ambient", new int[] {16384});
        }

        int count(int what) {
            return what < 0 || what > 4 ? -1 : things.get(what).size();
        }

        int about(int what, int k, int which) {
            if (k < 0 || k >= count(what) || which < 0) {
                return 0;
            }
            Map<String, int[]> thing = things.get(what).get(k);
            List<Integer> row = new ArrayList<>();
            for (String name : PARTS[what].replace("[]", "").split(" ")) {
                boolean told = what == 1 || what == 3 || thing.get(name).length == 1
                    && !"texels times values".contains(name);
                for (int value : told ? thing.get(name) : new int[0]) {
                    row.add(value);
                }
            }
            if (what == 2) {
                row.add(thing.get("points").length / 3);
                row.add(thing.get("faces").length / 3);
            }
            if (what == 4) {
                row.add(thing.get("times").length);
            }
            return which < row.size() ? row.get(which) : 0;
        }

        private static String[] listNames(int what) {
            return what == 0 ? new String[] {"texels"}
                : what == 2 ? new String[] {"points", "normals", "places", "faces"}
                : what == 4 ? new String[] {"times", "values"} : new String[0];
        }

        int lists(int what) {
            return listNames(what).length;
        }

        int length(int what, int k, int list) {
            return things.get(what).get(k).get(listNames(what)[list]).length;
        }

        int at(int what, int k, int list, int i) {
            if (k < 0 || k >= count(what) || list < 0 || list >= lists(what) || i < 0) {
                return 0;
            }
            int[] row = things.get(what).get(k).get(listNames(what)[list]);
            return i < row.length ? row[i] : 0;
        }

        int view(int i) {
            int[][] rows = {camera.get("move"), camera.get("turn"), camera.get("focus"),
                light.get("toward"), light.get("ambient")};
            int rest = i;
            for (int[] row : rows) {
                if (rest >= 0 && rest < row.length) {
                    return row[rest];
                }
                rest -= row.length;
            }
            return 0;
        }
    }

    /** Kind: a mark itself, w a word, n a number, ? what is no token, . the text's end. */
    private record Token(char kind, int where, String text) {
    }

    private final List<Token> tokens = new ArrayList<>();
    private int next = 0;
    private final Story story = new Story();

    private Oracle(String text) {
        Matcher matcher = TOKEN.matcher(text);
        int i = 0;
        while (matcher.find(i) && matcher.start() == i) {
            char c = text.charAt(i);
            if (" \n\r\t".indexOf(c) < 0) {
                char kind = c == '"' ? 'w' : "{}[]:,".indexOf(c) >= 0 ? c : 'n';
                tokens.add(new Token(kind, i, matcher.group()));
            }
            i = matcher.end();
        }
        tokens.add(new Token(i == text.length() ? '.' : '?', i, ""));
    }

    static Story read(String text) {
        Oracle oracle = new Oracle(text);
        oracle.scene();
        return oracle.story;
    }

    /** What is wrong with a text and where, 0 and 0 if nothing is. */
    static int[] wrong(String text) {
        try {
            read(text);
            return new int[] {0, 0};
        } catch (Wrong wrong) {
            return new int[] {wrong.what, wrong.where};
        }
    }

    private Token peek() {
        return tokens.get(next);
    }

    private Token take(char kind) {
        Token token = peek();
        if (token.kind() != kind) {
            throw new Wrong(1, token.where());
        }
        if (next < tokens.size() - 1) {
            next++;
        }
        return token;
    }

    private void scene() {
        take('{');
        int from = 0;
        while (peek().kind() != '}' || from > 0 && tokens.get(next - 1).kind() == ',') {
            Token word = take('w');
            int section = from;
            while (section < 7 && !word.text().equals('"' + SECTIONS[section] + '"')) {
                section++;
            }
            if (section == 7) {
                throw new Wrong(1, word.where());
            }
            take(':');
            section(section);
            from = section + 1;
            if (from == 7 || peek().kind() != ',') {
                break;
            }
            take(',');
        }
        take('}');
        take('.');
    }

    private void section(int section) {
        if (section == 5) {
            story.camera = thing(5);
            return;
        }
        if (section == 6) {
            story.light = thing(6);
            return;
        }
        List<Map<String, int[]>> list = story.things.get(section);
        take('[');
        if (peek().kind() == ']') {
            take(']');
            return;
        }
        do {
            if (peek().kind() == '{' && list.size() == MOST[section]) {
                throw new Wrong(3, peek().where());
            }
            list.add(thing(section));
        } while (more());
        take(']');
    }

    private boolean more() {
        if (peek().kind() != ',') {
            return false;
        }
        take(',');
        return true;
    }

    private Map<String, int[]> thing(int section) {
        Map<String, int[]> thing = new LinkedHashMap<>();
        char before = '{';
        for (String part : PARTS[section].split(" ")) {
            take(before);
            before = ',';
            String name = part.replace("[]", "");
            Token word = take('w');
            if (!word.text().equals('"' + name + '"')) {
                throw new Wrong(1, word.where());
            }
            take(':');
            thing.put(name, part.endsWith("[]") ? list(section, name, thing)
                : new int[] {number(section, name, thing, -1)});
        }
        take('}');
        return thing;
    }

    /** One number; previous is the one before it in its list. */
    private int number(int section, String name, Map<String, int[]> thing, long previous) {
        Token token = take('n');
        BigInteger big = new BigInteger(token.text());
        if (big.bitLength() > 31 || !canBe(section, name, thing, big.intValue(), previous)) {
            throw new Wrong(2, token.where());
        }
        return big.intValue();
    }

    private int[] list(int section, String name, Map<String, int[]> thing) {
        int most = most(section, name, thing);
        List<Integer> row = new ArrayList<>();
        take('[');
        if (peek().kind() != ']') {
            do {
                if (peek().kind() == 'n' && row.size() == most) {
                    throw new Wrong(3, peek().where());
                }
                row.add(number(section, name, thing, row.isEmpty() ? -1 : row.get(row.size() - 1)));
            } while (more());
        }
        if (peek().kind() == ']' && !enough(name, row.size(), most)) {
            throw new Wrong(3, peek().where());
        }
        take(']');
        return row.stream().mapToInt(Integer::intValue).toArray();
    }

    private static boolean enough(String name, int size, int most) {
        switch (name) {
            case "points":
            case "faces":
                return size > 0 && size % 3 == 0;
            case "times":
                return size > 0;
            default:
                return size == most;
        }
    }

    private static int most(int section, String name, Map<String, int[]> thing) {
        switch (name) {
            case "texels":
                return thing.get("side")[0] * thing.get("side")[0] * 3;
            case "colour":
                return 4;
            case "points":
            case "faces":
                return 3 * 128;
            case "normals":
                return thing.get("points").length;
            case "places":
                return thing.get("points").length / 3 * 2;
            case "times":
                return 32;
            case "values":
                return thing.get("times").length * 3;
            default:
                return 3;
        }
    }

    private static boolean within(long value, long low, long high) {
        return low <= value && value <= high;
    }

    private boolean canBe(int section, String name, Map<String, int[]> thing, int n, long previous) {
        switch (name) {
            case "side":
                return List.of(1, 2, 4, 8, 16, 32).contains(n);
            case "wrap":
            case "what":
            case "how":
                return within(n, 0, 2);
            case "soft":
            case "both":
                return within(n, 0, 1);
            case "texels":
            case "colour":
                return within(n, 0, 255);
            case "texture":
                return within(n, -1, story.count(0) - 1);
            case "material":
                return within(n, 0, story.count(1) - 1);
            case "mesh":
                return within(n, -1, story.count(2) - 1);
            case "parent":
                return within(n, -1, story.count(3) - 1);
            case "node":
                return within(n, 0, story.count(3) - 1);
            case "points":
            case "turn":
            case "size":
                return within(n, -1048576, 1048576);
            case "normals":
            case "toward":
                return within(n, -65536, 65536);
            case "places":
                return within(n, -131072, 131072);
            case "faces":
                return within(n, 0, thing.get("points").length / 3 - 1);
            case "move":
                return within(n, -4194304, 4194304);
            case "times":
                return within(n, 0, 1000000) && n > previous;
            case "values":
                return canBe(3, new String[] {"move", "turn", "size"}[thing.get("what")[0]], thing, n, -1);
            case "focus":
                return within(n, 8, 512);
            default:
                return within(n, 0, 65536);
        }
    }
}
