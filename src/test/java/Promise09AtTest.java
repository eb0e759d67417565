/** Promise 9: at. */
final class Promise09AtTest {
    private static final String PROMISE = "Promise 9, at";
    private static final int[] LISTS = {1, 0, 4, 0, 2};

    public static void main(String[] args) {
        SceneText x = new SceneText();
        Check.taken(x, Texts.WHOLE);
        Check.sentence(PROMISE, "textures: list 0 texels");
        Whole.textures(x);
        Check.sentence(PROMISE, "meshes: 0 points, 1 normals, 2 places, 3 faces");
        Whole.meshes(x);
        Check.sentence(PROMISE, "tracks: 0 times, 1 values");
        Whole.tracks(x);
        noSuchKind();
        noSuchThing();
        noSuchList();
        noSuchNumber();
        noLongerThere();
        longerListLeavesNothing();
        Check.finish();
    }

    private static void noSuchKind() {
        Check.sentence(PROMISE, "0 if there is none such (what)");
        SceneText x = new SceneText();
        Check.taken(x, Texts.WHOLE);
        int[] others = {-1, 1, 3, 5, 6, 1 << 30, Integer.MIN_VALUE, Integer.MAX_VALUE};
        for (int what : others) {
            for (int list = 0; list < 4; list++) {
                for (int i = 0; i < 4; i++) {
                    Check.due("at " + what + " 0 " + list + " " + i, 0, x.at(what, 0, list, i));
                }
            }
        }
    }

    private static void noSuchThing() {
        Check.sentence(PROMISE, "0 if there is none such (k)");
        for (int what = 0; what < 5; what += 2) {
            SceneText x = new SceneText();
            Check.taken(x, Texts.WHOLE);
            for (int list = 0; list < LISTS[what]; list++) {
                for (int i = 0; i < 4; i++) {
                    Check.due("at " + what + " behind the last " + list + " " + i, 0,
                        x.at(what, Whole.COUNTS[what], list, i));
                    Check.due("at " + what + " -1 " + list + " " + i, 0, x.at(what, -1, list, i));
                }
                for (int k : Promise08AboutTest.OUTSIDE) {
                    Check.due("at " + what + " " + k + " " + list + " 1", 0, x.at(what, k, list, 1));
                }
            }
        }
        for (int what = 0; what < 5; what += 2) {
            SceneText x = new SceneText();
            Check.taken(x, Fullest.behindAFullKind(what));
            for (int list = 0; list < LISTS[what]; list++) {
                Check.due("at " + what + " before the first " + list + " 0", 0, x.at(what, -1, list, 0));
                Check.due("at " + what + " behind the only one " + list + " 0", 0, x.at(what, 1, list, 0));
            }
        }
        for (int what = 0; what < 5; what += 2) {
            SceneText x = new SceneText();
            Check.taken(x, Texts.full(what, Texts.MOST[what]) + "]}");
            for (int list = 0; list < LISTS[what]; list++) {
                Check.due("at " + what + " behind the last of all " + list + " 0", 0,
                    x.at(what, Texts.MOST[what], list, 0));
            }
        }
    }

    private static void noLongerThere() {
        Check.sentence(PROMISE, "0 if there is none such (k, of which an earlier scene had one)");
        for (int what = 0; what < 5; what += 2) {
            SceneText x = new SceneText();
            for (int things : new int[] {5, 4, 2}) {
                Check.taken(x, Texts.full(what, things) + "]}");
            }
            for (int k = 2; k < 5; k++) {
                for (int list = 0; list < LISTS[what]; list++) {
                    Check.due("at " + what + " " + k + " " + list + " 0", 0, x.at(what, k, list, 0));
                }
            }
        }
    }

    private static void noSuchList() {
        Check.sentence(PROMISE, "0 if there is none such (list)");
        for (int what = 0; what < 5; what++) {
            SceneText x = new SceneText();
            Check.taken(x, Texts.WHOLE);
            for (int k = 0; k < 2; k++) {
                for (int i = 0; i < 4; i++) {
                    for (int list = LISTS[what]; list < LISTS[what] + 3; list++) {
                        Check.due("at " + what + " " + k + " " + list + " " + i, 0, x.at(what, k, list, i));
                    }
                    Check.due("at " + what + " " + k + " -1 " + i, 0, x.at(what, k, -1, i));
                }
                for (int list : Promise08AboutTest.OUTSIDE) {
                    Check.due("at " + what + " " + k + " " + list + " 1", 0, x.at(what, k, list, 1));
                }
            }
        }
    }

    private static void noSuchNumber() {
        Check.sentence(PROMISE, "0 if there is none such (i)");
        int[][] lists = {{0, 0, 3}, {2, 0, 3}, {2, 1, 3}, {2, 2, 2}, {2, 3, 3}, {4, 0, 1}, {4, 1, 3}};
        for (int[] list : lists) {
            SceneText x = new SceneText();
            // Two of each, so that behind a list of the first one other numbers may lie.
            Check.taken(x, "{'textures':[" + Check.times(2, Texts.TEXTURE) + "],'materials':[" + Texts.MATERIAL
                + "],'meshes':[" + Check.times(2, Texts.MESH) + "],'nodes':[" + Texts.NODE + "],'tracks':["
                + Check.times(2, Texts.TRACK) + "]}");
            String name = "at " + list[0] + " 0 " + list[1] + " ";
            for (int i = list[2]; i < list[2] + 100; i++) {
                Check.due(name + i, 0, x.at(list[0], 0, list[1], i));
            }
            for (int i = -100; i < 0; i++) {
                Check.due(name + i, 0, x.at(list[0], 0, list[1], i));
            }
            int[] far = {384, 385, 3072, 3075, 1179, 1 << 30, Integer.MIN_VALUE, Integer.MIN_VALUE + 3,
                Integer.MAX_VALUE, Integer.MAX_VALUE - 3};
            for (int i : far) {
                Check.due(name + i, 0, x.at(list[0], 0, list[1], i));
            }
        }
    }

    private static void longerListLeavesNothing() {
        Check.sentence(PROMISE, "0 if there is none such (what an earlier scene had)");
        SceneText x = new SceneText();
        String longer = "{'textures':[" + Fullest.texture(4) + "],'materials':[" + Texts.MATERIAL
            + "],'meshes':[" + Fullest.mesh(16, 16) + "],'nodes':[" + Texts.NODE + "],'tracks':["
            + Fullest.track(9) + "]}";
        Check.taken(x, longer);
        Check.taken(x, longer);
        Check.taken(x, Texts.SHORT);
        int[][] lengths = {{0, 0, 3}, {2, 0, 3}, {2, 1, 3}, {2, 2, 2}, {2, 3, 3}, {4, 0, 1}, {4, 1, 3}};
        for (int[] list : lengths) {
            for (int i = list[2]; i < list[2] + 6; i++) {
                Check.due("at " + list[0] + " 0 " + list[1] + " " + i, 0, x.at(list[0], 0, list[1], i));
            }
        }
    }
}
