/** Texts of things with as many numbers as are asked for, with ' for a quote. */
final class Fullest {
    private Fullest() {
    }

    /** So many numbers, each other than its neighbours, from low on. */
    static String numbers(int n, int low, int span) {
        StringBuilder all = new StringBuilder("[");
        for (int i = 0; i < n; i++) {
            all.append(i == 0 ? "" : ",").append(low + i % span);
        }
        return all.append("]").toString();
    }

    static String texture(int side) {
        return "{'side':" + side + ",'wrap':2,'soft':1,'texels':" + numbers(3 * side * side, 1, 9) + "}";
    }

    static String mesh(int points, int faces) {
        return "{'material':0,'points':" + numbers(3 * points, 1, 9) + ",'normals':" + numbers(3 * points, 2, 7)
            + ",'places':" + numbers(2 * points, 3, 5) + ",'faces':"
            + numbers(3 * faces, 0, Math.min(points, 9)) + "}";
    }

    /** Scenes in which the kind before kind what is as full as it can be and ends with its fullest thing. */
    static String behindAFullKind(int what) {
        String textures = "{'textures':[" + Check.times(7, Texts.TEXTURE) + "," + texture(32) + "],'materials':[";
        switch (what) {
            case 1:
                return textures + Texts.MATERIAL + "]}";
            case 2:
                return textures + Check.times(16, Texts.MATERIAL) + "],'meshes':[" + Texts.MESH + "]}";
            case 3:
                return Texts.full(2, 15) + "," + mesh(128, 128) + "],'nodes':[" + Texts.NODE + "]}";
            case 4:
                return Texts.full(3, 48) + "],'tracks':[" + Texts.TRACK + "]}";
            default:
                return "{'textures':[" + Texts.TEXTURE + "]}";
        }
    }

    static String track(int keys) {
        return "{'node':0,'what':2,'how':1,'times':" + numbers(keys, 1, 99) + ",'values':"
            + numbers(3 * keys, 100, 150) + "}";
    }
}
