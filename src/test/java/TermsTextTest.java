/** Terms: the text of a scene and its tokens. */
final class TermsTextTest {
    private static final String[] NAMES =
        {"textures", "materials", "meshes", "nodes", "tracks", "camera", "light"};
    private static final String[] PARTS = {"'textures':[]", "'materials':[]", "'meshes':[]", "'nodes':[]",
        "'tracks':[]", "'camera':" + Texts.CAMERA, "'light':" + Texts.LIGHT};
    private static final String LIGHT = "{'light':{'toward':[1,2,3],'ambient':";

    public static void main(String[] args) {
        onceAtMost();
        inThisOrder();
        missingParts();
        partsInOrder();
        allPartsThere();
        blanksAroundTokens();
        noBlanksInTokens();
        nothingElse();
        numbers();
        commas();
        emptyLists();
        Check.finish();
    }

    private static void terms(String words) {
        Check.sentence("Terms, the text", words);
    }

    private static void onceAtMost() {
        terms("each of these once at most");
        for (int part = 0; part < 6; part++) {
            Check.refused(1, "{" + PARTS[part] + ",^" + PARTS[part] + "}");
        }
        Check.refused(1, "{" + PARTS[6] + "^," + PARTS[6] + "}");
    }

    private static void inThisOrder() {
        terms("and in this order");
        for (int first = 0; first < 7; first++) {
            for (int second = 0; second < 7; second++) {
                if (first < second) {
                    Check.taken("{" + PARTS[first] + "," + PARTS[second] + "}");
                } else if (first < 6) {
                    Check.refused(1, "{" + PARTS[first] + ",^" + PARTS[second] + "}");
                } else {
                    Check.refused(1, "{" + PARTS[first] + "^," + PARTS[second] + "}");
                }
            }
        }
        Check.taken("{" + String.join(",", PARTS) + "}");
    }

    /** Every choice of the seven parts. */
    private static void missingParts() {
        terms("an empty list or the first camera and light where one is missing");
        String[] things = {"'textures':[" + Texts.TEXTURE + "]", "'materials':[" + Texts.MATERIAL + "]",
            "'meshes':[" + Texts.MESH + "]", "'nodes':[" + Texts.NODE + "]", "'tracks':[" + Texts.TRACK + "]",
            PARTS[5], PARTS[6]};
        for (int choice = 0; choice < 128; choice++) {
            boolean noMaterial = (choice & 6) == 4;
            boolean noNode = (choice & 24) == 16;
            if (!noMaterial && !noNode) {
                missing(things, choice);
            }
        }
    }

    private static void missing(String[] things, int choice) {
        StringBuilder text = new StringBuilder();
        for (int part = 0; part < 7; part++) {
            if ((choice >> part & 1) == 1) {
                text.append(text.length() == 0 ? "" : ",").append(things[part]);
            }
        }
        SceneText x = new SceneText();
        // A scene before it, of which nothing is left.
        Check.taken(x, Texts.WHOLE);
        Check.taken(x, "{" + text + "}");
        for (int what = 0; what < 5; what++) {
            Check.due("count " + what, choice >> what & 1, x.count(what));
        }
        boolean camera = (choice >> 5 & 1) == 1;
        boolean light = (choice >> 6 & 1) == 1;
        int[] due = {camera ? 1 : 0, camera ? 2 : 0, camera ? 3 : 0, camera ? 4 : 0, camera ? 5 : 0,
            camera ? 6 : 0, camera ? 8 : 32, light ? 7 : 0, light ? 8 : 0, light ? 9 : -65536,
            light ? 10 : 16384};
        for (int i = 0; i < due.length; i++) {
            Check.due("view " + i, due[i], x.view(i));
        }
    }

    private static final String[][] PARTS_OF = {
        {"'side':1", "'wrap':0", "'soft':0", "'texels':[1,2,3]"},
        {"'colour':[1,2,3,4]", "'texture':-1", "'both':0"},
        {"'material':0", "'points':[1,2,3]", "'normals':[4,5,6]", "'places':[7,8]", "'faces':[0,0,0]"},
        {"'parent':-1", "'mesh':-1", "'move':[1,2,3]", "'turn':[4,5,6]", "'size':[7,8,9]"},
        {"'node':0", "'what':0", "'how':0", "'times':[5]", "'values':[1,2,3]"},
        {"'move':[1,2,3]", "'turn':[4,5,6]", "'focus':8"},
        {"'toward':[7,8,9]", "'ambient':10"}};

    /** The text of a scene up to and with the { of a thing of that kind, the camera or the light. */
    private static String openedThing(int kind) {
        return kind < 5 ? Texts.OPENED[kind] + "{" : "{'" + NAMES[kind] + "':{";
    }

    private static String closed(int kind) {
        return kind < 5 ? "}]}" : "}}";
    }

    private static void partsInOrder() {
        terms("Their parts, in this order");
        for (int kind = 0; kind < 7; kind++) {
            String[] parts = PARTS_OF[kind];
            Check.taken(openedThing(kind) + String.join(",", parts) + closed(kind));
            String before = openedThing(kind);
            for (int i = 0; i < parts.length; i++) {
                for (int other = 0; other < parts.length; other++) {
                    if (other != i) {
                        Check.refused(1, before + "^" + parts[other]);
                    }
                }
                before += parts[i] + ",";
            }
        }
    }

    private static void allPartsThere() {
        terms("all of them there");
        for (int kind = 0; kind < 7; kind++) {
            String before = openedThing(kind);
            for (String part : PARTS_OF[kind]) {
                Check.refused(1, before + "^" + closed(kind));
                boolean first = before.endsWith("{");
                before += (first ? "" : ",") + part;
            }
            Check.taken(before + closed(kind));
            // None twice, and none more.
            Check.refused(1, before + "^," + PARTS_OF[kind][0] + closed(kind));
            Check.refused(1, before + "^,'name':1" + closed(kind));
        }
    }

    private static void blanksAroundTokens() {
        Check.sentence("Terms, tokens", "may have bytes 32, 10, 13, 9 before and behind them");
        String[] blanks = {" ", "\n", "\r", "\t", "  ", " \n\r\t", "\t\r\n \t\r\n "};
        for (String blank : blanks) {
            StringBuilder text = new StringBuilder(blank);
            String written = Texts.SHORT;
            for (int i = 0; i < written.length(); i++) {
                char c = written.charAt(i);
                boolean mark = "{}[]:,".indexOf(c) >= 0;
                text.append(mark ? blank : "").append(c).append(mark ? blank : "");
            }
            SceneText x = new SceneText();
            Check.taken(x, text.toString());
            Check.due("last number of the node", 9, x.about(3, 0, 10));
            Check.due("ambient", 10, x.view(10));
        }
        Check.sentence("Terms, tokens", "bytes 32, 10, 13, 9 (and no other)");
        for (int b = 0; b < 256; b++) {
            boolean blank = b == 32 || b == 10 || b == 13 || b == 9;
            if (blank) {
                Check.taken("{" + (char) b + "}");
                Check.taken("{}" + (char) b);
            } else if (b != '}' && b != '^' && b != '\'') {
                Check.refused(1, "{^" + (char) b + "}");
                Check.refused(1, "{}^" + (char) b);
            }
        }
    }

    private static void noBlanksInTokens() {
        Check.sentence("Terms, tokens", "before and behind them (not inside)");
        for (String blank : new String[] {" ", "\n", "\r", "\t"}) {
            Check.refused(1, "{^'no" + blank + "des':[]}");
            Check.refused(1, "{^'" + blank + "nodes':[]}");
            Check.refused(1, "{^'nodes" + blank + "':[]}");
            Check.refused(1, LIGHT + "^-" + blank + "5}}");
            Check.refused(1, LIGHT + "5" + blank + "^5}}");
        }
    }

    private static void nothingElse() {
        Check.sentence("Terms, tokens", "there is nothing else");
        Check.refused(1, "{^nodes:[]}");
        Check.refused(1, "{^`nodes`:[]}");
        Check.refused(1, "^null");
        Check.refused(1, "^//\n{}");
        Check.refused(1, "{^/**/}");
        Check.refused(1, "{}^;");
        Check.refused(1, "^\u00ef\u00bb\u00bf{}");
        Check.refused(1, "{}^\0");
        Check.refused(1, LIGHT + "^true}}");
        Check.refused(1, LIGHT + "^(5)}}");
    }

    private static void numbers() {
        Check.sentence("Terms, tokens", "a NUMBER (- or not, then one digit or more, as many as there are)");
        SceneText x = new SceneText();
        Check.taken(x, "{'light':{'toward':[-0,000,0007],'ambient':00000000000000000000065536}}");
        Check.due("-0", 0, x.view(7));
        Check.due("000", 0, x.view(8));
        Check.due("0007", 7, x.view(9));
        Check.due("ambient", 65536, x.view(10));
        Check.taken(x, "{'light':{'toward':[-0065536,-" + "0".repeat(3000) + "1,1],'ambient':-0}}");
        Check.due("-0065536", -65536, x.view(7));
        Check.due("-0..01", -1, x.view(8));
        Check.taken(x, LIGHT + "0".repeat(5000) + "65535}}");
        Check.due("0..065535", 65535, x.view(10));
        String[] noNumbers = {"^-", "^--5", "^-+5", "^+5", "^.5", "^-.5", "^-x", "^x5", "^'5'", "^-]", "^-'"};
        for (String no : noNumbers) {
            Check.refused(1, LIGHT + no + "}}");
        }
        Check.refused(1, LIGHT + "^-");
        Check.refused(1, LIGHT + "5^.0}}");
        Check.refused(1, LIGHT + "5^e1}}");
        Check.refused(1, LIGHT + "5^-5}}");
        Check.refused(1, LIGHT + "5^-}}");
        Check.refused(1, LIGHT + "0^x10}}");
        Check.refused(1, LIGHT + "5^");
        // The bytes beside the digits.
        Check.refused(1, LIGHT + "^/}}");
        Check.refused(1, LIGHT + "^:}}");
        Check.refused(1, LIGHT + "1^/}}");
        Check.refused(1, LIGHT + "1^:}}");
        for (char digit = '0'; digit <= '9'; digit++) {
            Check.taken(x, LIGHT + "1" + digit + "}}");
            Check.due("1" + digit, 10 + digit - '0', x.view(10));
        }
    }

    private static void commas() {
        Check.sentence("Terms, tokens", "Commas are between parts, none behind the last.");
        Check.refused(1, "{^,}");
        Check.refused(1, "{'nodes':[],^}");
        Check.refused(1, "{'nodes':[],^,'tracks':[]}");
        Check.refused(1, "{'nodes':[] ^'tracks':[]}");
        Check.refused(1, "{'light':{'toward':[^,1,2]}}");
        Check.refused(1, "{'light':{'toward':[1,2,^]}}");
        Check.refused(1, "{'light':{'toward':[1,2,3,^]}}");
        Check.refused(1, "{'light':{'toward':[1,^,2]}}");
        Check.refused(1, "{'light':{'toward':[1 ^2,3]");
        Check.refused(1, "{'light':{'toward':[1,2,3] ^'ambient':5}}");
        for (int kind = 0; kind < 5; kind++) {
            Check.refused(1, Texts.OPENED[kind] + "^,]}");
            Check.refused(1, Texts.full(kind, 1) + ",^]}");
            Check.refused(1, Texts.full(kind, 1) + ",^," + Texts.THINGS[kind] + "]}");
            Check.refused(1, Texts.full(kind, 1) + "^" + Texts.THINGS[kind] + "]}");
            Check.refused(1, Texts.full(kind, 1) + "]^" + PARTS[6] + "}");
        }
    }

    private static void emptyLists() {
        Check.sentence("Terms, tokens", "Lists of things may be empty.");
        for (int kind = 0; kind < 5; kind++) {
            SceneText x = new SceneText();
            Check.taken(x, "{" + PARTS[kind] + "}");
            Check.due("count " + kind, 0, x.count(kind));
            Check.taken(x, "{'" + NAMES[kind] + "' : [ \n ] }");
            Check.taken(x, Texts.SHORT);
            Check.taken(x, "{" + PARTS[kind] + "}");
            Check.due("count " + kind, 0, x.count(kind));
        }
        Check.taken("{'textures':[],'materials':[],'meshes':[],'nodes':[],'tracks':[]}");
    }
}
