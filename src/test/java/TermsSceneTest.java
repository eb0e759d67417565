import java.math.BigInteger;
import java.util.function.ToIntFunction;

/** Terms: what a scene can have; every limit is taken, and what is beside it is refused. */
final class TermsSceneTest {
    private static final String[] FAR = {"2147483647", "2147483648", "-2147483648", "-2147483649",
        "1" + "0".repeat(40), "-1" + "0".repeat(40), "9".repeat(400)};

    public static void main(String[] args) {
        atMostSoMany();
        textures();
        texels();
        materials();
        meshes();
        meshLists();
        faces();
        nodes();
        tracks();
        keys();
        values();
        camera();
        light();
        Check.finish();
    }

    private static void terms(String words) {
        Check.sentence("Terms, a scene", words);
    }

    private static void right(String text, int value, ToIntFunction<SceneText> answer) {
        SceneText x = new SceneText();
        String written = text.replace("?", Integer.toString(value));
        Check.taken(x, written);
        Check.due("the number of " + written, value, answer.applyAsInt(x));
    }

    private static void wrong(String text, Object value) {
        Check.refused(2, text.replace("?", "^" + value));
    }

    /** The number at the ? can be low .. high and nothing else, wrapped around or not. */
    private static void limits(String text, int low, int high, ToIntFunction<SceneText> answer) {
        right(text, low, answer);
        right(text, high, answer);
        wrong(text, low - 1);
        wrong(text, high + 1);
        for (String far : FAR) {
            wrong(text, far);
        }
        for (int bits = 32; bits <= 64; bits *= 2) {
            BigInteger wrap = BigInteger.ONE.shiftLeft(bits);
            wrong(text, BigInteger.valueOf(low).add(wrap));
            wrong(text, BigInteger.valueOf(high).subtract(wrap));
        }
    }

    /** Limits of each number of a list: the * stands for the list's n numbers. */
    private static void listLimits(String text, int n, int low, int high, int what, int from) {
        for (int i = 0; i < n; i++) {
            int which = from + i;
            limits(text.replace("*", slot(n, i)), low, high,
                x -> what == 5 ? x.view(which) : x.about(what, 0, which));
        }
    }

    /** So many zeros with a ? in the place of one. */
    private static String slot(int n, int at) {
        StringBuilder all = new StringBuilder();
        for (int i = 0; i < n; i++) {
            all.append(i == 0 ? "" : ",").append(i == at ? "?" : "0");
        }
        return all.toString();
    }

    private static void atMostSoMany() {
        String[] names = {"TEXTURES at most 8", "MATERIALS at most 16", "MESHES at most 16",
            "NODES at most 48", "TRACKS at most 32"};
        for (int what = 0; what < 5; what++) {
            terms(names[what]);
            SceneText x = new SceneText();
            Check.taken(x, Texts.full(what, Texts.MOST[what]) + "]}");
            Check.due("count " + what, Texts.MOST[what], x.count(what));
            Check.refused(3, Texts.full(what, Texts.MOST[what]) + ",^" + Texts.THINGS[what] + "]}");
            Check.taken(Texts.OPENED[what] + "]}");
        }
        terms("each in order from 0 on");
        SceneText x = new SceneText();
        Check.taken(x, "{'materials':[" + Texts.MATERIAL + "," + Texts.MATERIAL.replace("1,2,3,4", "5,6,7,8")
            + "]}");
        Check.due("first number of material 0", 1, x.about(1, 0, 0));
        Check.due("first number of material 1", 5, x.about(1, 1, 0));
    }

    private static void textures() {
        terms("A TEXTURE has a SIDE 1, 2, 4, 8, 16 or 32");
        for (int side = -66; side <= 130; side++) {
            boolean right = side == 1 || side == 2 || side == 4 || side == 8 || side == 16 || side == 32;
            if (right) {
                SceneText x = new SceneText();
                Check.taken(x, "{'textures':[" + Fullest.texture(side) + "]}");
                Check.due("side", side, x.about(0, 0, 0));
            } else {
                wrong("{'textures':[{'side':?,'wrap':0,'soft':0,'texels':[]}]}", side);
            }
        }
        String[] far = {"256", "1024", "65536", "1073741824", "4294967296", "4294967297", "-4294967295",
            "18446744073709551617", "340282366920938463463374607431768211457"};
        for (String side : far) {
            wrong("{'textures':[{'side':?", side);
        }
        for (String side : FAR) {
            wrong("{'textures':[{'side':?", side);
        }
        terms("WRAP 0, 1 or 2");
        limits("{'textures':[{'side':1,'wrap':?,'soft':0,'texels':[0,0,0]}]}", 0, 2, x -> x.about(0, 0, 1));
        right("{'textures':[{'side':1,'wrap':?,'soft':0,'texels':[0,0,0]}]}", 1, x -> x.about(0, 0, 1));
        terms("SOFT 0 or 1");
        limits("{'textures':[{'side':1,'wrap':0,'soft':?,'texels':[0,0,0]}]}", 0, 1, x -> x.about(0, 0, 2));
    }

    private static void texels() {
        terms("side * side TEXELS of 3 numbers");
        for (int side = 1; side <= 32; side *= 2) {
            int n = 3 * side * side;
            String start = "{'textures':[{'side':" + side + ",'wrap':0,'soft':0,'texels':[";
            SceneText x = new SceneText();
            Check.taken(x, start + Check.times(n - 1, "3") + ",9]}]}");
            Check.due("last texel", 9, x.at(0, 0, 0, n - 1));
            Check.due("last texel but one", 3, x.at(0, 0, 0, n - 2));
            Check.due("behind the last texel", 0, x.at(0, 0, 0, n));
            Check.refused(3, start + Check.times(n, "3") + ",^3]}]}");
            Check.refused(3, start + Check.times(n - 1, "3") + "^]}]}");
            Check.refused(3, start + "^]}]}");
            // Whole texels, but too few of them.
            Check.refused(3, start + Check.times(n - 3, "3") + "^]}]}");
        }
        terms("TEXELS of 3 numbers 0 .. 255");
        for (int i = 0; i < 12; i++) {
            int number = i;
            limits("{'textures':[{'side':2,'wrap':0,'soft':0,'texels':[" + slot(12, i) + "]}]}", 0, 255,
                x -> x.at(0, 0, 0, number));
        }
    }

    private static void materials() {
        terms("A MATERIAL has a COLOUR of 4 numbers 0 .. 255");
        listLimits("{'materials':[{'colour':[*],'texture':-1,'both':0}]}", 4, 0, 255, 1, 0);
        String start = "{'materials':[{'colour':[";
        Check.refused(3, start + "^],'texture':-1,'both':0}]}");
        Check.refused(3, start + "0,0,0^],'texture':-1,'both':0}]}");
        Check.refused(3, start + "0,0,0,0,^0],'texture':-1,'both':0}]}");
        terms("A MATERIAL has a TEXTURE or none (-1)");
        for (int n = 1; n <= 8; n++) {
            limits("{'textures':[" + Check.times(n, Texts.TEXTURE)
                + "],'materials':[{'colour':[0,0,0,0],'texture':?,'both':0}]}", -1, n - 1, x -> x.about(1, 0, 4));
        }
        limits("{'materials':[{'colour':[0,0,0,0],'texture':?,'both':0}]}", -1, -1, x -> x.about(1, 0, 4));
        terms("BOTH 0 or 1");
        limits("{'materials':[{'colour':[0,0,0,0],'texture':-1,'both':?}]}", 0, 1, x -> x.about(1, 0, 5));
    }

    private static void meshes() {
        terms("A MESH has a material");
        for (int n = 1; n <= 16; n += 5) {
            limits("{'materials':[" + Check.times(n, Texts.MATERIAL) + "],'meshes':["
                + Texts.MESH.replace("'material':0", "'material':?") + "]}", 0, n - 1, x -> x.about(2, 0, 0));
        }
        wrong("{'meshes':[{'material':?", 0);
        wrong("{'meshes':[{'material':?", -1);
        terms("1 to 128 POINTS");
        for (int points : new int[] {1, 2, 127, 128}) {
            SceneText x = new SceneText();
            Check.taken(x, Texts.OPENED[2] + Fullest.mesh(points, 1) + "]}");
            Check.due("points", points, x.about(2, 0, 1));
        }
        String mesh = Texts.OPENED[2] + "{'material':0,'points':[";
        Check.refused(3, mesh + "^]");
        Check.refused(3, mesh + Check.times(384, "1") + ",^1,1,1]");
        terms("POINTS (3 numbers each, from -1048576 to 1048576)");
        for (int i = 0; i < 6; i++) {
            int number = i;
            limits(mesh + slot(6, i) + "],'normals':[0,0,0,0,0,0],'places':[0,0,0,0],'faces':[0,0,0]}]}",
                -1048576, 1048576, x -> x.at(2, 0, 0, number));
        }
    }

    private static void meshLists() {
        String mesh = Texts.OPENED[2] + "{'material':0,'points':[0,0,0,0,0,0],'normals':[";
        terms("as many NORMALS (3, -65536 .. 65536)");
        for (int i = 0; i < 6; i++) {
            int number = i;
            limits(mesh + slot(6, i) + "],'places':[0,0,0,0],'faces':[0,0,0]}]}", -65536, 65536,
                x -> x.at(2, 0, 1, number));
        }
        for (int n = 0; n < 6; n++) {
            Check.refused(3, mesh + Check.times(n, "0") + "^],'places':[0,0,0,0],'faces':[0,0,0]}]}");
        }
        Check.refused(3, mesh + "0,0,0,0,0,0,^0,0,0],'places':[0,0,0,0],'faces':[0,0,0]}]}");
        terms("as many PLACES (2, -131072 .. 131072)");
        mesh += "0,0,0,0,0,0],'places':[";
        for (int i = 0; i < 4; i++) {
            int number = i;
            limits(mesh + slot(4, i) + "],'faces':[0,0,0]}]}", -131072, 131072, x -> x.at(2, 0, 2, number));
        }
        for (int n = 0; n < 4; n++) {
            Check.refused(3, mesh + Check.times(n, "0") + "^],'faces':[0,0,0]}]}");
        }
        Check.refused(3, mesh + "0,0,0,0,^0,0],'faces':[0,0,0]}]}");
        terms("as many NORMALS, as many PLACES (as the most points)");
        String full = Fullest.mesh(128, 1);
        Check.refused(3, Texts.OPENED[2] + full.replace("],'places'", ",^0],'places'"));
        Check.refused(3, Texts.OPENED[2] + full.replaceFirst(",\\d],'places'", "^],'places'"));
        Check.refused(3, Texts.OPENED[2] + full.replace("],'faces'", ",^0],'faces'"));
        Check.refused(3, Texts.OPENED[2] + full.replaceFirst(",\\d],'faces'", "^],'faces'"));
    }

    private static void faces() {
        terms("1 to 128 FACES");
        for (int faces : new int[] {1, 2, 127, 128}) {
            SceneText x = new SceneText();
            Check.taken(x, Texts.OPENED[2] + Fullest.mesh(3, faces) + "]}");
            Check.due("faces", faces, x.about(2, 0, 2));
        }
        String mesh = Texts.OPENED[2] + "{'material':0,'points':[0,0,0],'normals':[0,0,0],'places':[0,0],'faces':[";
        Check.refused(3, mesh + "^]");
        Check.refused(3, mesh + Check.times(384, "0") + ",^0,0,0]");
        terms("FACES of three point numbers");
        for (int points : new int[] {1, 2, 128}) {
            for (int i = 0; i < 6; i++) {
                int number = i;
                String text = Fullest.mesh(points, 1);
                text = text.substring(0, text.indexOf("'faces'")) + "'faces':[" + slot(6, i) + "]}";
                limits(Texts.OPENED[2] + text + "]}", 0, points - 1, x -> x.at(2, 0, 3, number));
            }
        }
    }

    private static void nodes() {
        terms("A NODE has a PARENT, a node before it in the list or none (-1)");
        for (int before : new int[] {0, 1, 2, 46, 47}) {
            limits("{'nodes':[" + Check.times(before, Texts.NODE) + (before == 0 ? "" : ",")
                + Texts.NODE.replace("'parent':-1", "'parent':?") + "]}", -1, before - 1,
                x -> x.about(3, before, 0));
        }
        wrong("{'nodes':[" + Texts.NODE.replace("'parent':-1", "'parent':?") + "," + Texts.NODE + "]}", 1);
        terms("A NODE has a mesh or none (-1)");
        limits("{'nodes':[" + Texts.NODE.replace("'mesh':-1", "'mesh':?") + "]}", -1, -1, x -> x.about(3, 0, 1));
        for (int n = 1; n <= 16; n += 5) {
            limits(Texts.full(2, n) + "],'nodes':[" + Texts.NODE.replace("'mesh':-1", "'mesh':?") + "]}",
                -1, n - 1, x -> x.about(3, 0, 1));
        }
        String node = "{'nodes':[{'parent':-1,'mesh':-1,'move':[";
        terms("A NODE has a MOVE (3, -4194304 .. 4194304)");
        listLimits(node + "*],'turn':[0,0,0],'size':[0,0,0]}]}", 3, -4194304, 4194304, 3, 2);
        three(node, "],'turn':[0,0,0],'size':[0,0,0]}]}");
        terms("A NODE has a TURN (3, -1048576 .. 1048576)");
        listLimits(node + "0,0,0],'turn':[*],'size':[0,0,0]}]}", 3, -1048576, 1048576, 3, 5);
        three(node + "0,0,0],'turn':[", "],'size':[0,0,0]}]}");
        terms("A NODE has a SIZE (3, -1048576 .. 1048576)");
        listLimits(node + "0,0,0],'turn':[0,0,0],'size':[*]}]}", 3, -1048576, 1048576, 3, 8);
        three(node + "0,0,0],'turn':[0,0,0],'size':[", "]}]}");
    }

    /** Three numbers, no fewer and no more, between these texts. */
    private static void three(String before, String behind) {
        Check.refused(3, before + "^" + behind);
        Check.refused(3, before + "0^" + behind);
        Check.refused(3, before + "0,0^" + behind);
        Check.taken(before + "0,0,0" + behind);
        Check.refused(3, before + "0,0,0,^0" + behind);
    }

    private static void tracks() {
        terms("A TRACK has a node");
        wrong("{'tracks':[{'node':?", 0);
        wrong("{'tracks':[{'node':?", -1);
        for (int n : new int[] {1, 2, 48}) {
            limits("{'nodes':[" + Check.times(n, Texts.NODE) + "],'tracks':["
                + Texts.TRACK.replace("'node':0", "'node':?") + "]}", 0, n - 1, x -> x.about(4, 0, 0));
        }
        terms("WHAT 0 (move), 1 (turn), 2 (size)");
        String track = Texts.OPENED[4] + "{'node':0,'what':";
        limits(track + "?,'how':0,'times':[0],'values':[0,0,0]}]}", 0, 2, x -> x.about(4, 0, 1));
        right(track + "?,'how':0,'times':[0],'values':[0,0,0]}]}", 1, x -> x.about(4, 0, 1));
        terms("HOW 0, 1 or 2");
        limits(track + "0,'how':?,'times':[0],'values':[0,0,0]}]}", 0, 2, x -> x.about(4, 0, 2));
        right(track + "0,'how':?,'times':[0],'values':[0,0,0]}]}", 1, x -> x.about(4, 0, 2));
    }

    private static void keys() {
        terms("1 to 32 KEYS");
        for (int keys : new int[] {1, 2, 31, 32}) {
            SceneText x = new SceneText();
            Check.taken(x, Texts.OPENED[4] + Fullest.track(keys) + "]}");
            Check.due("keys", keys, x.about(4, 0, 3));
            Check.due("last time", keys, x.at(4, 0, 0, keys - 1));
            Check.due("last value", 99 + 3 * keys, x.at(4, 0, 1, 3 * keys - 1));
        }
        String track = Texts.OPENED[4] + "{'node':0,'what':0,'how':0,'times':[";
        Check.refused(3, track + "^],'values':[]}]}");
        String full = Fullest.numbers(32, 0, 99);
        Check.refused(3, track + full.substring(1, full.length() - 1) + ",^32]");
        terms("TIMES 0 .. 1000000");
        limits(track + "?],'values':[0,0,0]}]}", 0, 1000000, x -> x.at(4, 0, 0, 0));
        limits(track + "0,?],'values':[0,0,0,0,0,0]}]}", 1, 1000000, x -> x.at(4, 0, 0, 1));
        terms("TIMES that grow");
        limits(track + "5,999998,?],'values':[0,0,0,0,0,0,0,0,0]}]}", 999999, 1000000, x -> x.at(4, 0, 0, 2));
        wrong(track + "7,?]", 7);
        wrong(track + "7,8,?]", 7);
        wrong(track + "1000000,?]", 1000000);
        wrong(track + "1000000,?]", 1000001);
        wrong(track + "0,?]", "-0");
        wrong(track + "0,?]", "000");
    }

    private static void values() {
        terms("KEYS: and 3 numbers each");
        for (int keys : new int[] {1, 2, 32}) {
            String track = Texts.OPENED[4] + "{'node':0,'what':0,'how':0,'times':" + Fullest.numbers(keys, 0, 99)
                + ",'values':[";
            Check.refused(3, track + "^]}]}");
            Check.refused(3, track + Check.times(3 * keys - 1, "0") + "^]}]}");
            Check.taken(track + Check.times(3 * keys, "0") + "]}]}");
            Check.refused(3, track + Check.times(3 * keys, "0") + ",^0]}]}");
        }
        terms("3 numbers each, which the node can have");
        int[] limits = {4194304, 1048576, 1048576};
        for (int what = 0; what < 3; what++) {
            for (int i = 0; i < 6; i++) {
                int number = i;
                limits(Texts.OPENED[4] + "{'node':0,'what':" + what + ",'how':0,'times':[0,1],'values':["
                    + slot(6, i) + "]}]}", -limits[what], limits[what], x -> x.at(4, 0, 1, number));
            }
        }
    }

    private static void camera() {
        terms("THE CAMERA has a move (as nodes)");
        listLimits("{'camera':{'move':[*],'turn':[0,0,0],'focus':8}}", 3, -4194304, 4194304, 5, 0);
        three("{'camera':{'move':[", "],'turn':[0,0,0],'focus':8}}");
        terms("THE CAMERA has a turn (as nodes)");
        listLimits("{'camera':{'move':[0,0,0],'turn':[*],'focus':8}}", 3, -1048576, 1048576, 5, 3);
        three("{'camera':{'move':[0,0,0],'turn':[", "],'focus':8}}");
        terms("a FOCUS 8 .. 512");
        limits("{'camera':{'move':[0,0,0],'turn':[0,0,0],'focus':?}}", 8, 512, x -> x.view(6));
    }

    private static void light() {
        terms("THE LIGHT has a direction TOWARD it (3, -65536 .. 65536)");
        listLimits("{'light':{'toward':[*],'ambient':0}}", 3, -65536, 65536, 5, 7);
        three("{'light':{'toward':[", "],'ambient':0}}");
        terms("AMBIENT 0 .. 65536");
        limits("{'light':{'toward':[0,0,0],'ambient':?}}", 0, 65536, x -> x.view(10));
    }
}
