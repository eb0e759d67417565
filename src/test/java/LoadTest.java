/** Promise 5: load takes what is right, whatever its blanks and missing parts, and else changes nothing. */
final class LoadTest {
    public static void main(String[] args) {
        answersHowManyNodes();
        missingPartsAreTheFirstOnes();
        blanksAroundTokens();
        numbersAsWritten();
        fullestThings();
        refusedTextChangesNothing();
        lastSceneIsGone();
        Check.finish();
    }

    private static void answersHowManyNodes() {
        SceneText x = new SceneText();
        Check.feed(x, Check.text(Texts.WHOLE));
        Check.due("load", 3, x.load());
        Check.due("size", 0, x.size());
        Check.feed(x, Check.text("{'nodes':[" + Check.times(2, Texts.NODE) + "]}"));
        Check.due("load", 2, x.load());
        Check.feed(x, "{}");
        Check.due("load", 0, x.load());
    }

    private static void missingPartsAreTheFirstOnes() {
        SceneText x = new SceneText();
        Check.taken(x, "{'camera':" + Texts.CAMERA + "}");
        Check.due("focus", 8, x.view(6));
        Check.due("ambient", 16384, x.view(10));
        Check.taken(x, "{'light':" + Texts.LIGHT + "}");
        Check.due("focus", 32, x.view(6));
        Check.due("ambient", 10, x.view(10));
        Check.taken(x, "{'textures':[],'materials':[],'meshes':[],'nodes':[],'tracks':[]}");
        Check.due("ambient", 16384, x.view(10));
        Check.taken(x, "{'textures':[" + Texts.TEXTURE + "],'nodes':[" + Texts.NODE + "],'light':"
            + Texts.LIGHT + "}");
        Check.due("textures", 1, x.count(0));
        Check.due("materials", 0, x.count(1));
        Check.due("nodes", 1, x.count(3));
        Check.taken(x, "{'materials':[" + Texts.MATERIAL + "],'meshes':[" + Texts.MESH
            + "],'nodes':[" + Texts.NODE + "],'tracks':[" + Texts.TRACK + "],'camera':"
            + Texts.CAMERA + ",'light':" + Texts.LIGHT + "}");
        Check.due("textures", 0, x.count(0));
        Check.due("tracks", 1, x.count(4));
    }

    private static void blanksAroundTokens() {
        SceneText x = new SceneText();
        Check.taken(x, " \n\r\t{ \t'light' \r: \n{ 'toward' : [ 1 , \n-2 ,3\t] , 'ambient' : 4 } } \n\r\t");
        Check.due("toward", -2, x.view(8));
        Check.due("ambient", 4, x.view(10));
        Check.taken(x, "{ 'nodes' : [ ] }");
        Check.taken(x, "{ }");
    }

    private static void numbersAsWritten() {
        SceneText x = new SceneText();
        Check.taken(x, "{'light':{'toward':[-0,000,0007],'ambient':00000000000000000000065536}}");
        Check.due("-0", 0, x.view(7));
        Check.due("000", 0, x.view(8));
        Check.due("0007", 7, x.view(9));
        Check.due("ambient", 65536, x.view(10));
        Check.taken(x, "{'light':{'toward':[-0065536,-1,1],'ambient':-0}}");
        Check.due("-0065536", -65536, x.view(7));
    }

    private static void fullestThings() {
        String points = Check.times(384, "1");
        String mesh = "{'material':0,'points':[" + points + "],'normals':[" + points + "],'places':["
            + Check.times(256, "2") + "],'faces':[" + Check.times(383, "127") + ",0]}";
        SceneText x = new SceneText();
        Check.taken(x, "{'materials':[" + Texts.MATERIAL + "],'meshes':[" + mesh + "]}");
        Check.due("points", 128, x.about(2, 0, 1));
        Check.due("faces", 128, x.about(2, 0, 2));
        Check.due("last place", 2, x.at(2, 0, 2, 255));
        Check.due("last but one of faces", 127, x.at(2, 0, 3, 382));
        Check.due("last of faces", 0, x.at(2, 0, 3, 383));
        fullestTexture();
        fullestTrack();
    }

    private static void fullestTexture() {
        for (int side = 1; side <= 32; side *= 2) {
            SceneText x = new SceneText();
            int texels = 3 * side * side;
            Check.taken(x, "{'textures':[{'side':" + side + ",'wrap':2,'soft':1,'texels':["
                + Check.times(texels - 1, "3") + ",9]}]}");
            Check.due("last texel", 9, x.at(0, 0, 0, texels - 1));
            Check.due("last texel but one", 3, x.at(0, 0, 0, texels - 2));
            Check.due("behind the last texel", 0, x.at(0, 0, 0, texels));
        }
    }

    private static void fullestTrack() {
        StringBuilder times = new StringBuilder("0");
        for (int i = 1; i < 32; i++) {
            times.append(',').append(999968 + i + 1);
        }
        SceneText x = new SceneText();
        Check.taken(x, "{'nodes':[" + Texts.NODE + "],'tracks':[{'node':0,'what':2,'how':0,'times':["
            + times + "],'values':[" + Check.times(96, "-1048576") + "]}]}");
        Check.due("keys", 32, x.about(4, 0, 3));
        Check.due("last time", 1000000, x.at(4, 0, 0, 31));
        Check.due("last value", -1048576, x.at(4, 0, 1, 95));
    }

    private static void refusedTextChangesNothing() {
        SceneText x = new SceneText();
        Check.taken(x, Texts.WHOLE);
        // Wrong at the very last byte, so that all before it was read.
        Check.refused(x, 1, "{'textures':[" + Texts.TEXTURE + "],'materials':[" + Texts.MATERIAL
            + "],'meshes':[" + Texts.MESH + "],'nodes':[" + Texts.NODE + "],'tracks':["
            + Texts.TRACK + "],'camera':" + Texts.CAMERA + ",'light':" + Texts.LIGHT + "}^}");
        Check.due("textures", 2, x.count(0));
        Check.due("side", 2, x.about(0, 0, 0));
        Check.due("texel", 10, x.at(0, 0, 0, 0));
        Check.due("colour", 255, x.about(1, 0, 1));
        Check.due("point", 1, x.at(2, 0, 0, 0));
        Check.due("face", 1, x.at(2, 0, 3, 1));
        Check.due("move", -4194304, x.about(3, 0, 2));
        Check.due("nodes", 3, x.count(3));
        Check.due("keys", 2, x.about(4, 0, 3));
        Check.due("value", 51, x.at(4, 0, 1, 0));
        Check.due("camera", 70, x.view(0));
        Check.due("light", 76, x.view(7));
        Check.refused(x, 1, "^");
        Check.due("nodes", 3, x.count(3));
        Check.due("light", 76, x.view(7));
    }

    private static void lastSceneIsGone() {
        SceneText x = new SceneText();
        Check.taken(x, Texts.WHOLE);
        Check.taken(x, "{'nodes':[" + Texts.NODE + "]}");
        Check.due("nodes", 1, x.count(3));
        Check.due("move of node 0", 1, x.about(3, 0, 2));
        Check.due("node 1", 0, x.about(3, 1, 2));
        Check.due("texture 0", 0, x.about(0, 0, 0));
        Check.due("texel", 0, x.at(0, 0, 0, 0));
        Check.due("point", 0, x.at(2, 0, 0, 0));
        Check.due("value", 0, x.at(4, 0, 1, 0));
        Check.due("focus", 32, x.view(6));
        Check.taken(x, Texts.WHOLE);
        Check.due("texel", 10, x.at(0, 0, 0, 0));
        Check.due("focus", 512, x.view(6));
    }
}
