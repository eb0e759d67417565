/** Terms: what is WRONG and where; the ^ stands before the wrong byte. */
final class TermsWrongTest {
    private static final String LIGHT = "{'light':{'toward':[1,2,3],'ambient':";
    private static final String NODES = "{'nodes':[" + Texts.NODE + "],";
    private static final String MATERIALS = "{'materials':[" + Texts.MATERIAL + "],";
    private static final String MESH = MATERIALS + "'meshes':[{'material':0,'points':[";
    private static final String TRACK = NODES + "'tracks':[{'node':0,'what':0,'how':0,'times':[";

    public static void main(String[] args) {
        firstFromTheLeft();
        noToken();
        notOneThatCanBeThere();
        missingAtTheEnd();
        wordNotClosed();
        wordNotOneOfThose();
        numberItCantHave();
        timeThatDoesNotGrow();
        referenceToWhatIsNotBefore();
        thingMore();
        numberMore();
        whateverItIs();
        commaBeforeItIsNotWrong();
        commaWhereNoPartCanCome();
        fewerAtTheBracket();
        wholeOnes();
        Check.finish();
    }

    private static void wrong(String words) {
        Check.sentence("Terms, WRONG", words);
    }

    private static void firstFromTheLeft() {
        wrong("from the left on, at the first token that is wrong");
        Check.refused(2, LIGHT + "^65537x");
        Check.refused(2, LIGHT + "^65537");
        Check.refused(2, LIGHT + "^-1,5}}}}");
        Check.refused(1, "{'light':{'toward':[1,^x,99999999]");
        Check.refused(2, "{'light':{'toward':[1,^99999999,x]");
        Check.refused(2, "{'light':{'toward':[^99999999,1,2,3]");
        Check.refused(3, "{'light':{'toward':[1,2,3,^4 x");
        Check.refused(3, "{'light':{'toward':[1,2^],'ambient':-1");
        Check.refused(1, "{^'lights':{'toward':[99999999");
        Check.refused(1, "^x{");
        // A number is looked at before what stands behind it.
        Check.refused(2, "{'textures':[{'side':^3,'wrap':3,'soft':2,'texels':[256,0");
        Check.refused(2, "{'textures':[{'side':2,'wrap':^3,'soft':2,'texels':[256,0");
        Check.refused(2, "{'textures':[{'side':2,'wrap':2,'soft':^2,'texels':[256,0");
        Check.refused(2, "{'textures':[{'side':2,'wrap':2,'soft':1,'texels':[^256,0");
    }

    private static void noToken() {
        wrong("1 what is no token (at its first byte)");
        String text = Texts.SHORT;
        String[] none = {"x", "-", "+", ".", "\0", "\u0080", "\u00ff", "\u000b", "\u00a0", "\\", "/"};
        for (int i = 0; i < text.length(); i++) {
            char c = text.charAt(i);
            if ("{}[]:,".indexOf(c) >= 0) {
                String no = none[i % none.length];
                Check.refused(1, text.substring(0, i) + "^" + no + text.substring(i));
                Check.refused(1, text.substring(0, i) + "  ^" + no + text.substring(i + 1));
                // A - behind which a digit stands would be a number's.
                boolean digitBehind = i + 1 < text.length() && Character.isDigit(text.charAt(i + 1));
                if (!"-".equals(no) || !digitBehind) {
                    Check.refused(1, text.substring(0, i + 1) + "^" + no + text.substring(i + 1));
                }
            }
        }
        Check.refused(1, text + "^x");
        Check.refused(1, text + " ^x");
    }

    private static void notOneThatCanBeThere() {
        wrong("1 not one that can be there (at its first byte)");
        String[] texts = {"^[]", "^}", "^7", "^'nodes'", "^:", "^,", "^]", "{^:}", "{^5}", "{^{}}", "{^[", "{^]",
            "{'nodes'^}", "{'nodes'^[]}", "{'nodes'^,", "{'nodes'^'nodes'", "{'nodes'^5", "{'nodes'^{",
            "{'nodes':^}", "{'nodes':^{}}", "{'nodes':^5}", "{'nodes':^:[]}", "{'nodes':^]", "{'nodes':^,",
            "{'nodes':^'nodes'", "{'nodes':[^}", "{'nodes':[^5]}", "{'nodes':[^[]]}", "{'nodes':[^:",
            "{'nodes':[^'parent'", "{'nodes':[{^}]}", "{'nodes':[{^5", "{'nodes':[{^{", "{'nodes':[]^]}",
            "{'nodes':[]^:", "{'nodes':[]^{", "{'nodes':[]^5", "{'nodes':[]^[", "{'nodes':[]} ^}", "{} ^{}",
            "{}^[", "{}^'nodes'", "{}^5", "{}^,", "{}^:", "{'camera':^[]}", "{'camera':{^}}", "{'camera':^5",
            "{'light':^'x'", "{'light':{'toward':^5}}", "{'light':{'toward':^{", "{'light':{'toward':[1,2,3^}",
            "{'light':{'toward':[1,2^}", "{'light':{'toward':[^[", "{'light':{'toward':[^{",
            "{'light':{'toward':[^'x'", "{'light':{'toward':[^:", "{'light':{'toward':[1^:",
            "{'light':{'toward':[1^[", "{'light':{'toward':[1,^[2]", "{'light':{'toward':[1,^'x'",
            "{'light':{'toward':[1,2,3]^}}", "{'light':{'toward':[1,2,3],^}}", "{'light':{'toward':[1,2,3],^5",
            LIGHT + "^[5]}}", LIGHT + "^{5}}}", LIGHT + "^}}", LIGHT + "5^]}", LIGHT + "5^:5}",
            LIGHT + "5}^]", LIGHT + "5 ^'x'"};
        for (String text : texts) {
            Check.refused(1, text);
        }
        for (int kind = 0; kind < 5; kind++) {
            for (String mark : new String[] {"{", "[", "}", ":", "5", "'x'", "-5"}) {
                Check.refused(1, Texts.full(kind, 1) + "^" + mark);
                Check.refused(1, Texts.full(kind, Texts.MOST[kind]) + "^" + mark);
            }
        }
    }

    private static void missingAtTheEnd() {
        wrong("at the text's end, if one is missing");
        Check.refused(1, "^");
        Check.refused(1, " ^");
        Check.refused(1, " \n\r\t ^");
        String text = Texts.SHORT;
        for (int i = 0; i < text.length(); i++) {
            // Behind a mark or a number that is right; the last } would make the text whole.
            if ("{}[]:,".indexOf(text.charAt(i)) >= 0 && i < text.length() - 1) {
                Check.refused(1, text.substring(0, i + 1) + "^");
                Check.refused(1, text.substring(0, i + 1) + "  ^");
                if (i > 0 && Character.isDigit(text.charAt(i - 1))) {
                    Check.refused(1, text.substring(0, i) + "^");
                    Check.refused(1, text.substring(0, i) + "\n^");
                }
            }
        }
        for (int kind = 0; kind < 5; kind++) {
            String full = Texts.full(kind, Texts.MOST[kind]);
            Check.refused(1, full + "^");
            Check.refused(1, full + ",^");
            Check.refused(1, full + "]^");
        }
        Check.refused(1, "{'light':{'toward':[1,2,3,^");
        Check.refused(1, "{'nodes'^");
        Check.refused(1, "{'nodes' ^");
        missingWhereOldBytesLie();
    }

    /** The text's end is where it was cut, whatever lies behind it. */
    private static void missingWhereOldBytesLie() {
        cut(1, "{'nodes':[]^", "}");
        cut(1, "{'nodes':[^", "]}");
        cut(1, "{'nodes':^", "[]}");
        cut(1, "{'nodes'^", ":[]}");
        cut(1, "{^", "'nodes':[]}");
        cut(1, "^", "{}");
        cut(1, "{^", "}");
        cut(1, "{ ^", " }");
        cut(1, LIGHT + "65536^", "}}");
        cut(1, LIGHT + "65536}^", "}");
        cut(1, LIGHT + "6553^", "6}}");
        cut(1, LIGHT + "1^", "}}");
        cut(1, LIGHT + "^-", "0}}");
        cut(1, LIGHT + "^", "1}}");
        cut(1, "{'light':{'toward':[1,2,3^", "],'ambient':5}}");
        cut(1, "{'light':{'toward':[1,2^", ",3],'ambient':5}}");
        cut(1, "{'light':{'toward':[1^", "],'ambient':5}}");
        cut(0, LIGHT + "5}}", "}");
        cut(0, "{} ", "x");
    }

    /** The text goes to the tape whole, then the part behind is cut off. */
    private static void cut(int what, String before, String behind) {
        SceneText x = new SceneText();
        String left = Check.text(before.replace("^", ""));
        Check.feed(x, left + Check.text(behind));
        Check.due("end", true, x.end(left.length()));
        Check.dueError(x, what, Math.max(before.indexOf('^'), 0), before + ", cut off: " + behind);
    }

    private static void wordNotClosed() {
        wrong("a word that is not closed, at its quote");
        Check.refused(1, "{^'");
        Check.refused(1, "{ ^'nodes");
        Check.refused(1, "{^'nodes:[]}");
        Check.refused(1, "{^'nodes ");
        Check.refused(1, "{^'nodes\n':[]}");
        Check.refused(1, "{'nodes':[],^'tracks");
        Check.refused(1, "{'nodes':[{^'parent");
        Check.refused(1, "{'nodes':[{^'parent:-1");
        Check.refused(1, "{'light':{^'toward");
        Check.refused(1, "{'light':{'toward':[1,2,3],^'ambient:5}}");
        Check.refused(1, LIGHT + "^'");
        Check.refused(1, "{}^'");
        cut(1, "{^'nodes", "':[]}");
        cut(1, "{^'node", "s':[]}");
        cut(1, "{^'", "nodes':[]}");
        cut(1, "{'light':{^'toward", "':[1,2,3],'ambient':5}}");
    }

    private static void wordNotOneOfThose() {
        wrong("or not one of those that can be there, at its quote");
        String[] words = {"", "node", "nodess", "Nodes", "NODES", "n", "nodes2", "x", "side", "parent", "move",
            "toward", "nodes nodes", "n\u00f6des", "no-des"};
        for (String word : words) {
            Check.refused(1, "{^'" + word + "':[]}");
            Check.refused(1, "{'meshes':[], ^'" + word + "':[]}");
        }
        Check.refused(1, "{'nodes':[],^'meshes':[]}");
        Check.refused(1, "{'nodes':[],^'nodes':[]}");
        Check.refused(1, "{'camera':" + Texts.CAMERA + ",^'camera':" + Texts.CAMERA + "}");
        Check.refused(1, "{'camera':" + Texts.CAMERA + ",^'lights':" + Texts.LIGHT + "}");
        Check.refused(1, "{'textures':[{^'nodes':0}]}");
        Check.refused(1, "{'textures':[{'side':1,'wrap':0,'soft':0,^'texel':[1,2,3]}]}");
        Check.refused(1, "{'textures':[{'side':1,'wrap':0,'soft':0,^'texelss':[1,2,3]}]}");
        Check.refused(1, "{'materials':[{^'color':[1,2,3,4]}]}");
        Check.refused(1, NODES + "'tracks':[{'node':0,^'how':0}]}");
        Check.refused(1, MESH + "1,2,3],^'places':[1,2]}]}");
        Check.refused(1, "{'camera':{^'turn':[1,2,3]}}");
        Check.refused(1, "{'light':{^'ambient':5}}");
    }

    private static void numberItCantHave() {
        wrong("2 a number that its thing can't have (at its first byte)");
        Check.refused(2, LIGHT + " ^-1}}");
        Check.refused(2, LIGHT + "\n\t^65537}}");
        Check.refused(2, LIGHT + "^0065537}}");
        Check.refused(2, LIGHT + "^-00001}}");
        Check.refused(2, LIGHT + "^4294967296}}");
        Check.refused(2, LIGHT + "^-4294967296}}");
        Check.refused(2, LIGHT + "^18446744073709551616}}");
        Check.refused(2, LIGHT + "^-18446744073709551616}}");
        Check.refused(2, LIGHT + "^" + "9".repeat(1000) + "}}");
        Check.refused(2, LIGHT + "^1" + "0".repeat(1000) + "}}");
        Check.refused(2, LIGHT + "^-1" + "0".repeat(1000) + "}}");
        Check.refused(2, "{'light':{'toward':[1, ^65537 ,3]");
        Check.refused(2, "{'light':{'toward':[1,2,^-65537]");
        Check.refused(2, "{'camera':{'move':[0,0,0],'turn':[0,0,0],'focus':^7}}");
        Check.refused(2, "{'camera':{'move':[0,0,0],'turn':[0,0,0],'focus':^513}}");
        Check.refused(2, "{'textures':[{'side': ^3");
    }

    private static void timeThatDoesNotGrow() {
        wrong("a time that does not grow, too");
        Check.refused(2, TRACK + "0,^0]");
        Check.refused(2, TRACK + "5,6,^6]");
        Check.refused(2, TRACK + "5,6,^5]");
        Check.refused(2, TRACK + "5, ^-1]");
        Check.refused(2, TRACK + "^-1,0]");
        Check.refused(2, TRACK + "1000000,^1000000]");
        Check.refused(2, TRACK + "1000000,^1000001]");
        String full = Fullest.numbers(31, 7, 99);
        Check.refused(2, TRACK + full.substring(1, full.length() - 1) + ",^37]");
        Check.taken(TRACK + "0,1,1000000],'values':[1,2,3,4,5,6,7,8,9]}]}");
        // What grew in one track does not bind the next, and values need not grow.
        Check.taken(NODES + "'tracks':[" + Texts.TRACK + "," + Texts.TRACK.replace("[1,2,3]", "[3,2,1]") + "]}");
    }

    private static void referenceToWhatIsNotBefore() {
        wrong("a reference to what is not before it in the text");
        Check.refused(2, "{'materials':[{'colour':[1,2,3,4],'texture':^0,'both':0}]}");
        Check.refused(2, "{'textures':[" + Texts.TEXTURE + "],'materials':[{'colour':[1,2,3,4],'texture':^1");
        Check.refused(2, "{'meshes':[{'material':^0");
        Check.refused(2, MATERIALS + "'meshes':[{'material':^1");
        Check.refused(2, "{'nodes':[{'parent':^0");
        Check.refused(2, "{'nodes':[" + Texts.NODE + ",{'parent':^1");
        Check.refused(2, "{'nodes':[" + Check.times(47, Texts.NODE) + ",{'parent':^47");
        Check.refused(2, "{'nodes':[{'parent':-1,'mesh':^0");
        Check.refused(2, MATERIALS + "'meshes':[" + Texts.MESH + "],'nodes':[{'parent':-1,'mesh':^1");
        Check.refused(2, "{'tracks':[{'node':^0");
        Check.refused(2, NODES + "'tracks':[{'node':^1");
        Check.refused(2, MESH + "1,2,3],'normals':[1,2,3],'places':[1,2],'faces':[0,0,^1");
        wrong("not before it in the text (what the last scene had does not count)");
        SceneText x = new SceneText();
        Check.taken(x, Texts.WHOLE);
        Check.refused(x, 2, "{'tracks':[{'node':^0");
        Check.refused(x, 2, "{'materials':[{'colour':[1,2,3,4],'texture':^0");
        Check.refused(x, 2, "{'meshes':[{'material':^0");
        Check.refused(x, 2, "{'nodes':[{'parent':-1,'mesh':^0");
        Check.refused(x, 2, "{'nodes':[{'parent':^0");
    }

    private static void thingMore() {
        wrong("3 a thing more than there can be (at its first byte)");
        for (int kind = 0; kind < 5; kind++) {
            String full = Texts.full(kind, Texts.MOST[kind]);
            Check.refused(3, full + ",^" + Texts.THINGS[kind] + "]}");
            Check.refused(3, full + ", \n^" + Texts.THINGS[kind] + "]}");
            Check.refused(3, full + ",^" + Texts.THINGS[kind] + "," + Texts.THINGS[kind] + "]}");
            Check.taken(full + "]}");
            Check.taken(Texts.full(kind, Texts.MOST[kind] - 1) + "]}");
        }
    }

    private static void numberMore() {
        wrong("3 a number more than there can be (at its first byte)");
        Check.refused(3, "{'textures':[{'side':1,'wrap':0,'soft':0,'texels':[1,2,3,^4");
        Check.refused(3, "{'textures':[{'side':2,'wrap':0,'soft':0,'texels':[" + Check.times(12, "1") + ",^1");
        Check.refused(3, "{'textures':[{'side':32,'wrap':0,'soft':0,'texels':[" + Check.times(3072, "1") + ",^1");
        Check.refused(3, "{'materials':[{'colour':[1,2,3,4,^5]");
        Check.refused(3, "{'camera':{'move':[1,2,3,^4]");
        Check.refused(3, "{'camera':{'move':[1,2,3],'turn':[1,2,3 , ^4]");
        Check.refused(3, "{'light':{'toward':[1,2,3,^4,5]");
        String node = "{'nodes':[{'parent':-1,'mesh':-1,'move':[1,2,3";
        Check.refused(3, node + ",^4]");
        Check.refused(3, node + "],'turn':[1,2,3,^4]");
        Check.refused(3, node + "],'turn':[1,2,3],'size':[1,2,3,^4]");
        Check.refused(3, MESH + Check.times(384, "1") + ",^1");
        Check.refused(3, MESH + "1,2,3],'normals':[1,2,3,^4");
        Check.refused(3, MESH + "1,2,3],'normals':[1,2,3],'places':[1,2,^3");
        Check.refused(3, MESH + "1,2,3],'normals':[1,2,3],'places':[1,2],'faces':[" + Check.times(384, "0") + ",^0");
        String full = Fullest.numbers(32, 0, 99);
        Check.refused(3, TRACK + full.substring(1, full.length() - 1) + ",^99");
        Check.refused(3, TRACK + "0],'values':[1,2,3,^4");
    }

    /** Whatever the thing or the number is: it needs not be one that there could be, nor be whole. */
    private static void whateverItIs() {
        wrong("a thing or a number more than there can be, whatever it is");
        String[] numbers = {"-1", "256", "65537", "-65537", "99999999999", "-99999999999", "0", "-0", "000"};
        for (String number : numbers) {
            Check.refused(3, "{'textures':[{'side':1,'wrap':0,'soft':0,'texels':[1,2,3,^" + number);
            Check.refused(3, "{'materials':[{'colour':[1,2,3,4,^" + number + "]");
            Check.refused(3, "{'light':{'toward':[1,2,3,^" + number + "x");
            Check.refused(3, MESH + "1,2,3],'normals':[1,2,3],'places':[1,2],'faces':[" + Check.times(384, "0")
                + ",^" + number);
            String full = Fullest.numbers(32, 5, 99);
            Check.refused(3, TRACK + full.substring(1, full.length() - 1) + ",^" + number);
        }
        for (int kind = 0; kind < 5; kind++) {
            String full = Texts.full(kind, Texts.MOST[kind]);
            Check.refused(3, full + ",^{");
            Check.refused(3, full + ",^{}]}");
            Check.refused(3, full + ",^{'x':5}");
            Check.refused(3, full + ",^{x");
        }
        wrong("(what is neither a thing nor a number is 1 there as elsewhere)");
        for (int kind = 0; kind < 5; kind++) {
            String full = Texts.full(kind, Texts.MOST[kind]);
            for (String other : new String[] {"]", "5", "[", "}", ",", ":", "'x'", "x", "-"}) {
                Check.refused(1, full + ",^" + other);
            }
        }
        for (String other : new String[] {"]", "{", "[", "}", ",", ":", "'x'", "x", "-", "-x"}) {
            Check.refused(1, "{'light':{'toward':[1,2,3,^" + other);
        }
    }

    private static void commaBeforeItIsNotWrong() {
        wrong("the comma before it is none that is wrong");
        Check.refused(3, "{'light':{'toward':[1,2,3,^4");
        Check.refused(3, "{'light':{'toward':[1,2,3 ,  ^4");
        Check.refused(1, "{'light':{'toward':[1,2,3,^");
        Check.refused(3, "{'materials':[{'colour':[1,2,3,4,\n^5]");
        for (int kind = 0; kind < 5; kind++) {
            Check.refused(3, Texts.full(kind, Texts.MOST[kind]) + " , ^{");
            Check.refused(1, Texts.full(kind, Texts.MOST[kind]) + " , ^");
        }
    }

    private static void commaWhereNoPartCanCome() {
        wrong("but where no other part can come a comma is: 1");
        for (int kind = 0; kind < 5; kind++) {
            String thing = Texts.THINGS[kind];
            String open = thing.substring(0, thing.length() - 1);
            Check.refused(1, Texts.OPENED[kind] + open + "^,}]}");
            Check.refused(1, Texts.OPENED[kind] + open + " ^, 'side':1}]}");
        }
        Check.refused(1, "{'camera':{'move':[1,2,3],'turn':[1,2,3],'focus':9^,}}");
        Check.refused(1, "{'camera':{'move':[1,2,3],'turn':[1,2,3],'focus':9^,'focus':9}}");
        Check.refused(1, LIGHT + "5^,}}");
        Check.refused(1, LIGHT + "5^,'ambient':5}}");
        Check.refused(1, LIGHT + "5}^,}");
        Check.refused(1, LIGHT + "5} ^, 'light':");
        Check.refused(1, LIGHT + "5}}^,");
        Check.refused(1, "{}^,");
        // Where one can come the comma is right, and what stands behind it is wrong.
        Check.refused(1, "{'camera':" + Texts.CAMERA + ",^}");
        Check.refused(1, "{'tracks':[],^}");
    }

    private static void fewerAtTheBracket() {
        wrong("or, at the list's ], fewer than there must be");
        Check.refused(3, "{'textures':[{'side':1,'wrap':0,'soft':0,'texels':[^]");
        Check.refused(3, "{'textures':[{'side':1,'wrap':0,'soft':0,'texels':[1,2 ^]");
        Check.refused(3, "{'textures':[{'side':2,'wrap':0,'soft':0,'texels':[1,2,3^]");
        Check.refused(3, "{'materials':[{'colour':[1,2,3^]");
        Check.refused(3, "{'camera':{'move':[1,2^]");
        Check.refused(3, "{'camera':{'move':[1,2,3],'turn':[ ^]");
        Check.refused(3, "{'light':{'toward':[1\n^]");
        String node = "{'nodes':[{'parent':-1,'mesh':-1,'move':[1,2";
        Check.refused(3, node + "^]");
        Check.refused(3, node + ",3],'turn':[1,2^]");
        Check.refused(3, node + ",3],'turn':[1,2,3],'size':[1,2^]");
        Check.refused(3, MESH + "1,2,3,4,5,6],'normals':[1,2,3^]");
        Check.refused(3, MESH + "1,2,3],'normals':[1,2,3],'places':[1^]");
        Check.refused(3, TRACK + "^]");
        Check.refused(3, TRACK + "0],'values':[^]");
        Check.refused(3, TRACK + "0,1],'values':[1,2,3^]");
        Check.refused(3, TRACK + "0,1],'values':[1,2,3,4,5^]");
        wrong("at the list's ] (where another token stands: 1)");
        Check.refused(1, "{'light':{'toward':[1,2^}");
        Check.refused(1, "{'light':{'toward':[1,2^");
        Check.refused(1, "{'light':{'toward':[1,2,^]");
        Check.refused(1, "{'light':{'toward':[1,2^x");
    }

    private static void wholeOnes() {
        String[] words = {"points: whole ones, of three numbers, and at least one",
            "faces: whole ones, of three numbers, and at least one"};
        String[] starts = {MESH, MESH + "1,2,3],'normals':[1,2,3],'places':[1,2],'faces':["};
        for (int list = 0; list < 2; list++) {
            wrong(words[list]);
            Check.refused(3, starts[list] + "^]");
            Check.refused(3, starts[list] + " \n ^]");
            for (int n = 1; n <= 384; n += n < 12 ? 1 : 31) {
                String numbers = starts[list] + Check.times(n, "0");
                Check.refused(n % 3 == 0 ? 1 : 3, numbers + (n % 3 == 0 ? "]^:" : "^]"));
            }
            Check.refused(3, starts[list] + Check.times(382, "0") + "^]");
            Check.refused(3, starts[list] + Check.times(383, "0") + " ^]");
            Check.refused(1, starts[list] + Check.times(384, "0") + "]^");
            Check.refused(3, starts[list] + Check.times(384, "0") + ",^0]");
        }
    }
}
