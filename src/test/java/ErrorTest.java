/** Promise 6 and WRONG: what was wrong and at which byte; the ^ stands before the wrong one. */
final class ErrorTest {
    private static final String LIGHT = "{'light':{'toward':[1,2,3],'ambient':";
    private static final String NODES = "{'nodes':[" + Texts.NODE + "],";
    private static final String MATERIALS = "{'materials':[" + Texts.MATERIAL + "],";

    public static void main(String[] args) {
        latestLoadOnly();
        wrongTokens();
        wrongWords();
        wrongCommas();
        wrongNumberTokens();
        numberLimits();
        references();
        times();
        thingsTooMany();
        numbersTooMany();
        numbersTooFew();
        Check.finish();
    }

    private static void latestLoadOnly() {
        SceneText x = new SceneText();
        Check.due("error before load", 0, x.error(0));
        Check.refused(x, 2, "{'camera':{'move':[0,0,0],'turn':[0,0,0],'focus':^7}}");
        Check.due("error(2)", 0, x.error(2));
        Check.due("error(-1)", 0, x.error(-1));
        x.feed(0x78787878, 0, 0, 0, 0);
        Check.due("error stays while feeding", 2, x.error(0));
        x.end(0);
        Check.refused(x, 1, "^");
        Check.refused(x, 3, "{'light':{'toward':[^]");
        Check.taken(x, "{}");
        Check.due("error(0)", 0, x.error(0));
        Check.due("error(1)", 0, x.error(1));
    }

    private static void wrongTokens() {
        Check.refused(1, "^");
        Check.refused(1, " \n ^");
        Check.refused(1, "^[]");
        Check.refused(1, "^}");
        Check.refused(1, "^7");
        Check.refused(1, "^'nodes'");
        Check.refused(1, "{^");
        Check.refused(1, "{ ^");
        Check.refused(1, "{} ^{}");
        Check.refused(1, "{}^\0");
        Check.refused(1, "{} ^x");
        Check.refused(1, "{}^,");
        Check.refused(1, "{^:}");
        Check.refused(1, "{^5}");
        Check.refused(1, "{^{}}");
        Check.refused(1, "{^nodes:[]}");
        Check.refused(1, "{'nodes'^}");
        Check.refused(1, "{'nodes'^[]}");
        Check.refused(1, "{'nodes':^}");
        Check.refused(1, "{'nodes':^{}}");
        Check.refused(1, "{'nodes':^5}");
        Check.refused(1, "{'nodes':^:[]}");
        Check.refused(1, "{'nodes':[^}");
        Check.refused(1, "{'nodes':[^5]}");
        Check.refused(1, "{'nodes':[^[]]}");
        Check.refused(1, "{'nodes':[{^}]}");
        Check.refused(1, "{'nodes':[]^]}");
        Check.refused(1, "{'nodes':[]^");
        Check.refused(1, "{'nodes':[] ^'tracks':[]}");
        Check.refused(1, "{'camera':^[]}");
        Check.refused(1, "{'camera':{^}}");
        Check.refused(1, "{'light':{'toward':^5}}");
        Check.refused(1, "{'light':{'toward':[1,2,3^}");
        Check.refused(1, "{'light':{'toward':[1,2^}");
        Check.refused(1, "{'light':{'toward':[1 ^2,3],");
        Check.refused(1, "{'light':{'toward':[1,2,3]^}}");
        Check.refused(1, "{'light':{'toward':[1,2,3] ^'ambient':5}}");
        Check.refused(1, "{'light':{'toward':[1,2,3],^}}");
        Check.refused(1, LIGHT + "^[5]}}");
        Check.refused(1, LIGHT + "5^]}");
        Check.refused(1, LIGHT + "5}^");
        Check.refused(1, LIGHT + "5 } ^");
        Check.refused(1, "{'nodes':[" + Texts.NODE + " ^" + Texts.NODE + "]}");
    }

    private static void wrongWords() {
        Check.refused(1, "{^'lights':{}}");
        Check.refused(1, "{^'ligh':{}}");
        Check.refused(1, "{^'Light':{}}");
        Check.refused(1, "{^'':{}}");
        Check.refused(1, "{^'");
        Check.refused(1, "{^'nodes");
        Check.refused(1, "{^'nodes:[]}");
        Check.refused(1, "{^'nodes ':[]}");
        Check.refused(1, "{^' nodes':[]}");
        Check.refused(1, "{^'side':1}");
        Check.refused(1, "{'nodes':[],^'nodes':[]}");
        Check.refused(1, "{'nodes':[],^'meshes':[]}");
        Check.refused(1, "{'light':" + Texts.LIGHT + "^,'camera':" + Texts.CAMERA + "}");
        Check.refused(1, "{'camera':" + Texts.CAMERA + ",^'camera':" + Texts.CAMERA + "}");
        Check.refused(1, "{'textures':[{^'wrap':0}]}");
        Check.refused(1, "{'textures':[{'side':1,^'soft':0}]}");
        Check.refused(1, "{'textures':[{'side':1,^'side':1}]}");
        Check.refused(1, "{'textures':[{'side':1,'wrap':0,'soft':0,^'texel':[1,2,3]}]}");
        Check.refused(1, "{'materials':[{^'color':[1,2,3,4]}]}");
        Check.refused(1, NODES + "'tracks':[{'node':0,^'how':0}]}");
        Check.refused(1, MATERIALS + "'meshes':[{'material':0,'points':[1,2,3],^'places':[1,2]}]}");
        Check.refused(1, "{'camera':{^'turn':[1,2,3]}}");
        Check.refused(1, "{'light':{^'ambient':5}}");
    }

    private static void wrongCommas() {
        Check.refused(1, "{^,}");
        Check.refused(1, "{'nodes':[],^}");
        Check.refused(1, "{'nodes':[],^,'tracks':[]}");
        Check.refused(1, "{'nodes':[],^");
        Check.refused(1, "{'nodes':[^,]}");
        Check.refused(1, "{'nodes':[" + Texts.NODE + ",^]}");
        Check.refused(1, "{'light':{'toward':[^,1,2]}}");
        Check.refused(1, "{'light':{'toward':[1,2,^]}}");
        Check.refused(1, "{'light':{'toward':[1,2,3,^]}}");
        Check.refused(1, "{'light':{'toward':[1,2,3,^");
        Check.refused(1, "{'light':{'toward':[1,^,2]}}");
        Check.refused(1, LIGHT + "5^,}}");
        Check.refused(1, LIGHT + "5}^,}");
        Check.refused(1, "{'camera':{'move':[1,2,3],'turn':[1,2,3],'focus':9^,'focus':9}}");
        Check.refused(1, "{'textures':[{'side':1,'wrap':0,'soft':0,'texels':[1,2,3]^,}]}");
        Check.refused(1, "{'materials':[{'colour':[1,2,3,4],'texture':-1,'both':0^,}]}");
    }

    private static void wrongNumberTokens() {
        Check.refused(1, LIGHT + "^-}}");
        Check.refused(1, LIGHT + "^--5}}");
        Check.refused(1, LIGHT + "^- 5}}");
        Check.refused(1, LIGHT + "^-");
        Check.refused(1, LIGHT + "^+5}}");
        Check.refused(1, LIGHT + "^.5}}");
        Check.refused(1, LIGHT + "5^.0}}");
        Check.refused(1, LIGHT + "5^e1}}");
        Check.refused(1, LIGHT + "5^-5}}");
        Check.refused(1, LIGHT + "5 ^5}}");
        Check.refused(1, LIGHT + "^'5'}}");
        Check.refused(1, LIGHT + "5^");
        Check.refused(2, LIGHT + "^65537");
        Check.refused(2, LIGHT + "^65537x");
        Check.refused(2, LIGHT + " ^-1}}");
        Check.refused(2, LIGHT + "^4294967296}}");
        Check.refused(2, LIGHT + "^18446744073709551616}}");
        Check.refused(2, LIGHT + "^-18446744073709551616}}");
        Check.refused(2, LIGHT + "^" + "9".repeat(1000) + "}}");
        Check.refused(2, LIGHT + "^1" + "0".repeat(1000) + "}}");
    }

    /** The ? stands for the number; the limits themselves are taken, what is beside them is not. */
    private static void limits(String text, int low, int high) {
        Check.taken(text.replace("?", Integer.toString(low)));
        Check.taken(text.replace("?", Integer.toString(high)));
        Check.refused(2, text.replace("?", "^" + (low - 1)));
        Check.refused(2, text.replace("?", "^" + (high + 1)));
    }

    private static void numberLimits() {
        String texture = "{'textures':[{'side':1,'wrap':";
        limits(texture + "?,'soft':0,'texels':[0,0,0]}]}", 0, 2);
        limits(texture + "0,'soft':?,'texels':[0,0,0]}]}", 0, 1);
        limits(texture + "0,'soft':0,'texels':[?,0,0]}]}", 0, 255);
        limits(texture + "0,'soft':0,'texels':[0,0,?]}]}", 0, 255);
        sides();
        limits("{'materials':[{'colour':[?,0,0,0],'texture':-1,'both':0}]}", 0, 255);
        limits("{'materials':[{'colour':[0,0,0,?],'texture':-1,'both':0}]}", 0, 255);
        limits("{'materials':[{'colour':[0,0,0,0],'texture':-1,'both':?}]}", 0, 1);
        String mesh = MATERIALS + "'meshes':[{'material':0,'points':[0,0,";
        limits(mesh + "?],'normals':[0,0,0],'places':[0,0],'faces':[0,0,0]}]}", -1048576, 1048576);
        limits(mesh + "0],'normals':[0,?,0],'places':[0,0],'faces':[0,0,0]}]}", -65536, 65536);
        limits(mesh + "0],'normals':[0,0,0],'places':[0,?],'faces':[0,0,0]}]}", -131072, 131072);
        String node = "{'nodes':[{'parent':-1,'mesh':-1,'move':[0,0,";
        limits(node + "?],'turn':[0,0,0],'size':[0,0,0]}]}", -4194304, 4194304);
        limits(node + "0],'turn':[?,0,0],'size':[0,0,0]}]}", -1048576, 1048576);
        limits(node + "0],'turn':[0,0,0],'size':[0,?,0]}]}", -1048576, 1048576);
        String track = NODES + "'tracks':[{'node':0,'what':";
        limits(track + "?,'how':0,'times':[0],'values':[0,0,0]}]}", 0, 2);
        limits(track + "0,'how':?,'times':[0],'values':[0,0,0]}]}", 0, 2);
        limits(track + "0,'how':0,'times':[?],'values':[0,0,0]}]}", 0, 1000000);
        limits(track + "0,'how':0,'times':[0],'values':[0,0,?]}]}", -4194304, 4194304);
        limits(track + "1,'how':0,'times':[0],'values':[0,0,?]}]}", -1048576, 1048576);
        limits(track + "2,'how':0,'times':[0],'values':[0,0,?]}]}", -1048576, 1048576);
        limits("{'camera':{'move':[?,0,0],'turn':[0,0,0],'focus':8}}", -4194304, 4194304);
        limits("{'camera':{'move':[0,0,0],'turn':[?,0,0],'focus':8}}", -1048576, 1048576);
        limits("{'camera':{'move':[0,0,0],'turn':[0,0,0],'focus':?}}", 8, 512);
        limits("{'light':{'toward':[0,0,?],'ambient':0}}", -65536, 65536);
        limits(LIGHT + "?}}", 0, 65536);
    }

    private static void sides() {
        for (int side = -2; side <= 70; side++) {
            boolean right = side == 1 || side == 2 || side == 4 || side == 8 || side == 16 || side == 32;
            Check.refused(right ? 1 : 2,
                "{'textures':[{'side':" + (right ? "" : "^") + side + (right ? "^" : ""));
        }
        Check.refused(2, "{'textures':[{'side':^-2147483648");
    }

    private static void references() {
        Check.refused(2, "{'materials':[{'colour':[1,2,3,4],'texture':^0,'both':0}]}");
        limits("{'textures':[" + Check.times(3, Texts.TEXTURE)
            + "],'materials':[{'colour':[1,2,3,4],'texture':?,'both':0}]}", -1, 2);
        Check.refused(2, "{'meshes':[{'material':^0");
        Check.refused(2, "{'meshes':[{'material':^-1");
        limits("{'materials':[" + Check.times(3, Texts.MATERIAL) + "],'meshes':["
            + Texts.MESH.replace("'material':0", "'material':?") + "]}", 0, 2);
        limits(MATERIALS + "'meshes':[{'material':0,'points':[1,2,3,4,5,6],'normals':[1,2,3,4,5,6],"
            + "'places':[1,2,3,4],'faces':[0,1,?]}]}", 0, 1);
        Check.refused(2, "{'nodes':[{'parent':^0");
        Check.refused(2, "{'nodes':[{'parent':^-2");
        limits("{'nodes':[" + Check.times(3, Texts.NODE) + ","
            + Texts.NODE.replace("'parent':-1", "'parent':?") + "]}", -1, 2);
        Check.refused(2, "{'nodes':[{'parent':-1,'mesh':^0");
        limits(MATERIALS + "'meshes':[" + Check.times(3, Texts.MESH) + "],'nodes':["
            + Texts.NODE.replace("'mesh':-1", "'mesh':?") + "]}", -1, 2);
        Check.refused(2, "{'tracks':[{'node':^0");
        Check.refused(2, "{'tracks':[{'node':^-1");
        limits("{'nodes':[" + Check.times(3, Texts.NODE) + "],'tracks':["
            + Texts.TRACK.replace("'node':0", "'node':?") + "]}", 0, 2);
        referencesToTheLastSceneAreWrong();
    }

    private static void referencesToTheLastSceneAreWrong() {
        SceneText x = new SceneText();
        Check.taken(x, Texts.WHOLE);
        Check.refused(x, 2, "{'tracks':[{'node':^0");
        Check.refused(x, 2, "{'materials':[{'colour':[1,2,3,4],'texture':^0");
    }

    private static void times() {
        String track = NODES + "'tracks':[{'node':0,'what':0,'how':0,'times':[";
        Check.refused(2, track + "0,^0]");
        Check.refused(2, track + "5,6,^6]");
        Check.refused(2, track + "5,6,^5]");
        Check.refused(2, track + "^-1,0]");
        Check.refused(2, track + "1000000,^1000000]");
        Check.refused(2, track + "1000000,^1000001]");
        Check.refused(2, track + "5,^-1]");
        Check.taken(track + "0,1,1000000],'values':[1,2,3,4,5,6,7,8,9]}]}");
        // What grew in one track does not bind the next.
        Check.taken(NODES + "'tracks':[" + Texts.TRACK + "," + Texts.TRACK + "]}");
    }

    private static void thingsTooMany() {
        String[] starts = {"{'textures':[", "{'materials':[", MATERIALS + "'meshes':[",
            "{'nodes':[", NODES + "'tracks':["};
        String[] things = {Texts.TEXTURE, Texts.MATERIAL, Texts.MESH, Texts.NODE, Texts.TRACK};
        int[] most = {8, 16, 16, 48, 32};
        for (int what = 0; what < 5; what++) {
            String full = starts[what] + Check.times(most[what], things[what]);
            SceneText x = new SceneText();
            Check.taken(x, full + "]}");
            Check.due("count " + what, most[what], x.count(what));
            Check.refused(3, full + ",^" + things[what] + "]}");
            Check.refused(3, full + ", ^{");
            Check.refused(1, full + ",^]}");
            Check.refused(1, full + ",^5]}");
            Check.refused(1, full + ",^");
            Check.refused(1, full + "^");
        }
    }

    private static void numbersTooMany() {
        Check.refused(3, "{'textures':[{'side':1,'wrap':0,'soft':0,'texels':[1,2,3,^4");
        Check.refused(3, "{'textures':[{'side':1,'wrap':0,'soft':0,'texels':[1,2,3 , ^999");
        Check.refused(3, "{'textures':[{'side':2,'wrap':0,'soft':0,'texels':["
            + Check.times(12, "1") + ",^-1");
        Check.refused(3, "{'materials':[{'colour':[1,2,3,4,^5]");
        Check.refused(3, "{'camera':{'move':[1,2,3,^4]");
        Check.refused(3, "{'camera':{'move':[1,2,3],'turn':[1,2,3,^99999999999]");
        Check.refused(3, "{'light':{'toward':[1,2,3,^4,5]");
        Check.refused(1, "{'light':{'toward':[1,2,3,^-]");
        Check.refused(1, "{'light':{'toward':[1,2,3,^{]");
        Check.refused(1, "{'light':{'toward':[1,2,3,^'x']");
        String node = "{'nodes':[{'parent':-1,'mesh':-1,'move':[1,2,3";
        Check.refused(3, node + ",^4]");
        Check.refused(3, node + "],'turn':[1,2,3,^4]");
        Check.refused(3, node + "],'turn':[1,2,3],'size':[1,2,3,^4]");
        String mesh = MATERIALS + "'meshes':[{'material':0,'points':[";
        Check.refused(3, mesh + Check.times(384, "1") + ",^1");
        Check.refused(3, mesh + "1,2,3],'normals':[1,2,3,^4");
        Check.refused(3, mesh + "1,2,3],'normals':[1,2,3],'places':[1,2,^3");
        Check.refused(3, mesh + "1,2,3],'normals':[1,2,3],'places':[1,2],'faces':["
            + Check.times(384, "0") + ",^7");
        String track = NODES + "'tracks':[{'node':0,'what':0,'how':0,'times':[";
        Check.refused(3, track + "0,1,2,3,4,5,6,7,8,9,10,11,12,13,14,15,16,17,18,19,20,21,22,23,24,25,"
            + "26,27,28,29,30,31,^0");
        Check.refused(3, track + "0],'values':[1,2,3,^4");
    }

    private static void numbersTooFew() {
        Check.refused(3, "{'textures':[{'side':1,'wrap':0,'soft':0,'texels':[^]");
        Check.refused(3, "{'textures':[{'side':1,'wrap':0,'soft':0,'texels':[1,2 ^]");
        Check.refused(3, "{'textures':[{'side':2,'wrap':0,'soft':0,'texels':[1,2,3^]");
        Check.refused(3, "{'materials':[{'colour':[1,2,3^]");
        Check.refused(3, "{'camera':{'move':[1,2^]");
        Check.refused(3, "{'camera':{'move':[1,2,3],'turn':[ ^]");
        Check.refused(3, "{'light':{'toward':[1^]");
        String node = "{'nodes':[{'parent':-1,'mesh':-1,'move':[1,2";
        Check.refused(3, node + "^]");
        Check.refused(3, node + ",3],'turn':[1,2^]");
        Check.refused(3, node + ",3],'turn':[1,2,3],'size':[1,2^]");
        String mesh = MATERIALS + "'meshes':[{'material':0,'points':[";
        Check.refused(3, mesh + "^]");
        Check.refused(3, mesh + "1^]");
        Check.refused(3, mesh + "1,2^]");
        Check.refused(3, mesh + "1,2,3,4^]");
        Check.refused(3, mesh + "1,2,3,4,5^]");
        Check.refused(3, mesh + Check.times(383, "1") + "^]");
        Check.refused(3, mesh + "1,2,3,4,5,6],'normals':[1,2,3^]");
        Check.refused(3, mesh + "1,2,3],'normals':[1,2,3],'places':[1^]");
        String faces = mesh + "1,2,3],'normals':[1,2,3],'places':[1,2],'faces':[";
        Check.refused(3, faces + "^]");
        Check.refused(3, faces + "0,0^]");
        Check.refused(3, faces + "0,0,0,0^]");
        String track = NODES + "'tracks':[{'node':0,'what':0,'how':0,'times':[";
        Check.refused(3, track + "^]");
        Check.refused(3, track + "0],'values':[^]");
        Check.refused(3, track + "0,1],'values':[1,2,3^]");
        Check.refused(3, track + "0,1],'values':[1,2,3,4,5^]");
    }
}
