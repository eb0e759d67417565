/**
 * A reader of scenes: a text of nested lists and numbers comes to a tape, is taken apart token by
 * token and becomes a scene's numbers; at its first wrong byte it is refused and changes nothing.
 */
public final class SceneText {
    public static final int NONE = -1;

    private static final int TEXTURES = 0;
    private static final int MATERIALS = 1;
    private static final int MESHES = 2;
    private static final int NODES = 3;
    private static final int TRACKS = 4;
    private static final int KINDS = 5;
    // The parts of a scene's text are its kinds of things, and these two behind them.
    private static final int CAMERA = 5;
    private static final int LIGHT = 6;
    private static final int PARTS = 7;

    private static final int WRONG_TOKEN = 1;
    private static final int WRONG_NUMBER = 2;
    private static final int WRONG_COUNT = 3;

    private static final int MOVE_LIMIT = 4194304;
    private static final int TURN_LIMIT = 1048576;
    private static final int SIZE_LIMIT = 1048576;
    private static final int POINT_LIMIT = 1048576;
    private static final int NORMAL_LIMIT = 65536;
    private static final int PLACE_LIMIT = 131072;
    private static final int TIME_LIMIT = 1000000;
    private static final int TOWARD_LIMIT = 65536;
    private static final int AMBIENT_LIMIT = 65536;
    private static final int SIDE_LIMIT = 32;
    private static final int BYTE_LIMIT = 255;
    private static final int MOST_TEXTURES = 8;
    private static final int MOST_MATERIALS = 16;
    private static final int MOST_MESHES = 16;
    private static final int MOST_NODES = 48;
    private static final int MOST_TRACKS = 32;
    private static final int MOST_POINTS = 128;
    private static final int MOST_FACES = 128;
    private static final int MOST_KEYS = 32;

    private final Reader reader = new Reader();
    private Scene scene = new Scene();

    public SceneText() {
    }

    public boolean feed(int a, int b, int c, int d, int e) {
        Tape tape = reader.tape;
        if (!tape.hasRoom()) {
            return false;
        }
        tape.put(a);
        tape.put(b);
        tape.put(c);
        tape.put(d);
        tape.put(e);
        return true;
    }

    public boolean end(int n) {
        return reader.tape.cut(n);
    }

    public int size() {
        return reader.tape.used;
    }

    public int load() throws IllegalArgumentException {
        scene = reader.read(scene);
        return scene.howMany(NODES);
    }

    public int error(int what) {
        if (what == 0) {
            return reader.tape.wrong;
        }
        return what == 1 ? reader.tape.wrongAt : 0;
    }

    public int count(int what) {
        return scene.howMany(what);
    }

    public int about(int what, int k, int which) {
        return scene.fact(what, k, which);
    }

    public int at(int what, int k, int list, int i) {
        return scene.listed(what, k, list, i);
    }

    public int view(int i) {
        return scene.seen(i);
    }

    /**
     * A scene's numbers, all in one row of cells that is made once: the camera and the light, then
     * the things of each kind, every thing with as many cells as the largest of its kind needs.
     */
    private static final class Scene {
        static final int VIEW = 11;
        static final int CAMERA_MOVE = 0;
        static final int CAMERA_TURN = 3;
        static final int FOCUS = 6;
        static final int TOWARD = 7;
        static final int AMBIENT = 10;

        // Where a thing's lists begin among its cells; before them stand the numbers of about().
        static final int TEXELS = 3;
        static final int POINTS = 3;
        static final int NORMALS = POINTS + 3 * MOST_POINTS;
        static final int PLACES = NORMALS + 3 * MOST_POINTS;
        static final int FACES = PLACES + 2 * MOST_POINTS;
        static final int TIMES = 4;
        static final int VALUES = TIMES + MOST_KEYS;

        private static final int TEXTURE_CELLS = TEXELS + 3 * SIDE_LIMIT * SIDE_LIMIT;
        private static final int MATERIAL_CELLS = 6;
        private static final int MESH_CELLS = FACES + 3 * MOST_FACES;
        private static final int NODE_CELLS = 11;
        private static final int TRACK_CELLS = VALUES + 3 * MOST_KEYS;

        private static final int FIRST_MATERIAL = VIEW + MOST_TEXTURES * TEXTURE_CELLS;
        private static final int FIRST_MESH = FIRST_MATERIAL + MOST_MATERIALS * MATERIAL_CELLS;
        private static final int FIRST_NODE = FIRST_MESH + MOST_MESHES * MESH_CELLS;
        private static final int FIRST_TRACK = FIRST_NODE + MOST_NODES * NODE_CELLS;
        private static final int CELLS = FIRST_TRACK + MOST_TRACKS * TRACK_CELLS;

        private static final int[] MOST =
            {MOST_TEXTURES, MOST_MATERIALS, MOST_MESHES, MOST_NODES, MOST_TRACKS};
        private static final int[] FACTS = {3, 6, 3, 11, 4};
        private static final int[] WIDTHS =
            {TEXTURE_CELLS, MATERIAL_CELLS, MESH_CELLS, NODE_CELLS, TRACK_CELLS};
        private static final int[] STARTS =
            {VIEW, FIRST_MATERIAL, FIRST_MESH, FIRST_NODE, FIRST_TRACK};
        private static final int[] FIRST_VIEW = {0, 0, 0, 0, 0, 0, 32, 0, 0, -65536, 16384};

        private final int[] counts = new int[KINDS];
        private final int[] cells = new int[CELLS];

        Scene() {
            clear();
        }

        /** No things, and the first camera and light; cells of things that are gone are never read. */
        void clear() {
            for (int kind = 0; kind < KINDS; kind++) {
                counts[kind] = 0;
            }
            for (int i = 0; i < VIEW; i++) {
                cells[i] = FIRST_VIEW[i];
            }
        }

        /** Makes room for one thing more of a kind and answers its first cell. */
        int add(int kind) {
            if (kind < 0 || kind >= KINDS || counts[kind] >= MOST[kind]) {
                return NONE;
            }
            counts[kind]++;
            return firstCell(kind, counts[kind] - 1);
        }

        void put(int cell, int value) {
            if (cell >= 0 && cell < CELLS) {
                cells[cell] = value;
            }
        }

        static int mostOf(int kind) {
            return kind < 0 || kind >= KINDS ? 0 : MOST[kind];
        }

        int howMany(int kind) {
            return kind < 0 || kind >= KINDS ? NONE : counts[kind];
        }

        int fact(int kind, int k, int which) {
            if (!has(kind, k) || which < 0 || which >= FACTS[kind]) {
                return 0;
            }
            return cell(firstCell(kind, k) + which);
        }

        int listed(int kind, int k, int list, int i) {
            if (i < 0 || i >= listLength(kind, k, list)) {
                return 0;
            }
            return cell(firstCell(kind, k) + listStart(kind, list) + i);
        }

        int seen(int i) {
            return i < 0 || i >= VIEW ? 0 : cells[i];
        }

        private boolean has(int kind, int k) {
            return k >= 0 && k < howMany(kind);
        }

        private int cell(int cell) {
            return cell < 0 || cell >= CELLS ? 0 : cells[cell];
        }

        private int firstCell(int kind, int k) {
            return kind < 0 || kind >= KINDS ? NONE : STARTS[kind] + k * WIDTHS[kind];
        }

        /** How many numbers a list has: it follows from the thing's facts; 0 if there is no such list. */
        private int listLength(int kind, int k, int list) {
            switch (kind) {
                case TEXTURES:
                    int side = fact(kind, k, 0);
                    return list == 0 ? 3 * side * side : 0;
                case MESHES:
                    return meshListLength(k, list);
                case TRACKS:
                    int keys = fact(kind, k, 3);
                    return list == 0 ? keys : list == 1 ? 3 * keys : 0;
                default:
                    return 0;
            }
        }

        private int meshListLength(int k, int list) {
            int points = fact(MESHES, k, 1);
            switch (list) {
                case 0:
                case 1:
                    return 3 * points;
                case 2:
                    return 2 * points;
                case 3:
                    return 3 * fact(MESHES, k, 2);
                default:
                    return 0;
            }
        }

        private static int listStart(int kind, int list) {
            if (kind == TEXTURES) {
                return TEXELS;
            }
            if (kind == TRACKS) {
                return list == 0 ? TIMES : VALUES;
            }
            switch (list) {
                case 0:
                    return POINTS;
                case 1:
                    return NORMALS;
                case 2:
                    return PLACES;
                default:
                    return FACES;
            }
        }
    }

    /**
     * The bytes that were fed, and a head that takes them apart token by token: it skips the blanks
     * behind what it takes, so it always stands at a token's first byte or at the text's end.
     */
    private static final class Tape {
        private static final int BYTES = 65536;
        private static final int FED_AT_ONCE = 20;
        // Above every limit of a scene: from here on more digits change nothing, and none overflows.
        private static final int ENOUGH = 100000000;

        private final byte[] bytes = new byte[BYTES];
        private int used = 0;
        private int textEnd = 0;
        private int head = 0;
        private int numberAt = 0;
        private int wrong = 0;
        private int wrongAt = 0;

        boolean hasRoom() {
            return used <= BYTES - FED_AT_ONCE;
        }

        void put(int four) {
            for (int shift = 24; shift >= 0 && used < BYTES; shift -= 8) {
                bytes[used] = (byte) (four >>> shift);
                used++;
            }
        }

        boolean cut(int n) {
            if (n < 0 || n > used) {
                return false;
            }
            used = n;
            return true;
        }

        /** The head goes to the text's first token; for what is fed next the tape is empty. */
        void begin() {
            textEnd = used;
            used = 0;
            wrong = 0;
            wrongAt = 0;
            goOnFrom(0);
        }

        void refuse(int what, int where) {
            wrong = what;
            wrongAt = where;
            throw new IllegalArgumentException("the text is wrong");
        }

        boolean isDone() {
            return head >= textEnd;
        }

        boolean sees(char mark) {
            return head < textEnd && bytes[head] == mark;
        }

        boolean takes(char mark) {
            boolean there = sees(mark);
            if (there) {
                goOnFrom(head + 1);
            }
            return there;
        }

        void mustTake(char mark) {
            if (!sees(mark)) {
                refuse(WRONG_TOKEN, head);
            }
            goOnFrom(head + 1);
        }

        boolean takesWord(String word) {
            int length = word.length();
            int lastQuote = head + 1 + length;
            if (lastQuote >= textEnd || bytes[head] != '"' || bytes[lastQuote] != '"') {
                return false;
            }
            for (int i = 0; i < length; i++) {
                if (bytes[head + 1 + i] != word.charAt(i)) {
                    return false;
                }
            }
            goOnFrom(lastQuote + 1);
            return true;
        }

        int takeNumber() {
            boolean minus = sees('-');
            int firstDigit = minus ? head + 1 : head;
            int value = 0;
            int i = firstDigit;
            while (i < textEnd && bytes[i] >= '0' && bytes[i] <= '9') {
                if (value < ENOUGH) {
                    value = value * 10 + (bytes[i] - '0');
                }
                i++;
            }
            if (i == firstDigit) {
                refuse(WRONG_TOKEN, head);
            }
            numberAt = head;
            goOnFrom(i);
            return minus ? -value : value;
        }

        private void goOnFrom(int place) {
            int i = place;
            while (i < textEnd
                && (bytes[i] == 32 || bytes[i] == 10 || bytes[i] == 13 || bytes[i] == 9)) {
                i++;
            }
            head = i;
        }
    }

    /** Checks the tape's text part by part and writes its numbers into a scene that nobody sees yet. */
    private static final class Reader {
        // What a list of numbers is held to beside its limits.
        private static final int ANY = 0;
        private static final int WHOLE_THREES = 1;
        private static final int GROWING = 2;

        private final Tape tape = new Tape();
        private Scene draft = new Scene();

        /** Answers the new scene; the old one is the next draft, so that no load makes memory. */
        Scene read(Scene old) {
            tape.begin();
            draft.clear();
            tape.mustTake('{');
            boolean partMustCome = !tape.sees('}');
            for (int part = 0; part < PARTS; part++) {
                if (partMustCome && tape.takesWord(partName(part))) {
                    tape.mustTake(':');
                    if (part == CAMERA) {
                        takeCamera();
                    } else if (part == LIGHT) {
                        takeLight();
                    } else {
                        takeThings(part);
                    }
                    partMustCome = part < LIGHT && tape.takes(',');
                }
            }
            if (partMustCome) {
                tape.refuse(WRONG_TOKEN, tape.head);
            }
            tape.mustTake('}');
            if (!tape.isDone()) {
                tape.refuse(WRONG_TOKEN, tape.head);
            }
            Scene fresh = draft;
            draft = old;
            return fresh;
        }

        private static String partName(int part) {
            switch (part) {
                case TEXTURES:
                    return "textures";
                case MATERIALS:
                    return "materials";
                case MESHES:
                    return "meshes";
                case NODES:
                    return "nodes";
                case TRACKS:
                    return "tracks";
                case CAMERA:
                    return "camera";
                default:
                    return "light";
            }
        }

        private void takeThings(int kind) {
            int most = Scene.mostOf(kind);
            tape.mustTake('[');
            boolean thingMustCome = !tape.sees(']');
            for (int k = 0; k <= most && thingMustCome; k++) {
                if (k == most) {
                    tape.refuse(tape.sees('{') ? WRONG_COUNT : WRONG_TOKEN, tape.head);
                }
                int cell = draft.add(kind);
                if (kind == TEXTURES) {
                    takeTexture(cell);
                } else if (kind == MATERIALS) {
                    takeMaterial(cell);
                } else if (kind == MESHES) {
                    takeMesh(cell);
                } else if (kind == NODES) {
                    takeNode(cell);
                } else {
                    takeTrack(cell);
                }
                tape.mustTake('}');
                thingMustCome = tape.takes(',');
            }
            tape.mustTake(']');
        }

        private void takeTexture(int cell) {
            takeName('{', "side");
            int side = takeNumber(cell, 1, SIDE_LIMIT);
            boolean powerOfTwo = (side & (side - 1)) == 0;
            if (!powerOfTwo) {
                tape.refuse(WRONG_NUMBER, tape.numberAt);
            }
            takeName(',', "wrap");
            takeNumber(cell + 1, 0, 2);
            takeName(',', "soft");
            takeNumber(cell + 2, 0, 1);
            takeName(',', "texels");
            int texels = 3 * side * side;
            takeList(ANY, texels, texels, cell + Scene.TEXELS, 0, BYTE_LIMIT);
        }

        private void takeMaterial(int cell) {
            takeName('{', "colour");
            takeList(ANY, 4, 4, cell, 0, BYTE_LIMIT);
            takeName(',', "texture");
            takeNumber(cell + 4, NONE, draft.howMany(TEXTURES) - 1);
            takeName(',', "both");
            takeNumber(cell + 5, 0, 1);
        }

        private void takeMesh(int cell) {
            takeName('{', "material");
            takeNumber(cell, 0, draft.howMany(MATERIALS) - 1);
            takeName(',', "points");
            int points = takeList(WHOLE_THREES, 3, 3 * MOST_POINTS,
                cell + Scene.POINTS, -POINT_LIMIT, POINT_LIMIT) / 3;
            takeName(',', "normals");
            takeList(ANY, 3 * points, 3 * points, cell + Scene.NORMALS, -NORMAL_LIMIT, NORMAL_LIMIT);
            takeName(',', "places");
            takeList(ANY, 2 * points, 2 * points, cell + Scene.PLACES, -PLACE_LIMIT, PLACE_LIMIT);
            takeName(',', "faces");
            int faces = takeList(WHOLE_THREES, 3, 3 * MOST_FACES,
                cell + Scene.FACES, 0, points - 1) / 3;
            draft.put(cell + 1, points);
            draft.put(cell + 2, faces);
        }

        private void takeNode(int cell) {
            takeName('{', "parent");
            // The node itself is counted already, and is not before itself.
            takeNumber(cell, NONE, draft.howMany(NODES) - 2);
            takeName(',', "mesh");
            takeNumber(cell + 1, NONE, draft.howMany(MESHES) - 1);
            takeName(',', "move");
            takeList(ANY, 3, 3, cell + 2, -MOVE_LIMIT, MOVE_LIMIT);
            takeName(',', "turn");
            takeList(ANY, 3, 3, cell + 5, -TURN_LIMIT, TURN_LIMIT);
            takeName(',', "size");
            takeList(ANY, 3, 3, cell + 8, -SIZE_LIMIT, SIZE_LIMIT);
        }

        private void takeTrack(int cell) {
            takeName('{', "node");
            takeNumber(cell, 0, draft.howMany(NODES) - 1);
            takeName(',', "what");
            int what = takeNumber(cell + 1, 0, 2);
            takeName(',', "how");
            takeNumber(cell + 2, 0, 2);
            takeName(',', "times");
            int keys = takeList(GROWING, 1, MOST_KEYS, cell + Scene.TIMES, 0, TIME_LIMIT);
            takeName(',', "values");
            int limit = what == 0 ? MOVE_LIMIT : what == 1 ? TURN_LIMIT : SIZE_LIMIT;
            takeList(ANY, 3 * keys, 3 * keys, cell + Scene.VALUES, -limit, limit);
            draft.put(cell + 3, keys);
        }

        private void takeCamera() {
            takeName('{', "move");
            takeList(ANY, 3, 3, Scene.CAMERA_MOVE, -MOVE_LIMIT, MOVE_LIMIT);
            takeName(',', "turn");
            takeList(ANY, 3, 3, Scene.CAMERA_TURN, -TURN_LIMIT, TURN_LIMIT);
            takeName(',', "focus");
            takeNumber(Scene.FOCUS, 8, 512);
            tape.mustTake('}');
        }

        private void takeLight() {
            takeName('{', "toward");
            takeList(ANY, 3, 3, Scene.TOWARD, -TOWARD_LIMIT, TOWARD_LIMIT);
            takeName(',', "ambient");
            takeNumber(Scene.AMBIENT, 0, AMBIENT_LIMIT);
            tape.mustTake('}');
        }

        /** Takes a part's name with the mark that is due before it. */
        private void takeName(char before, String word) {
            tape.mustTake(before);
            if (!tape.takesWord(word)) {
                tape.refuse(WRONG_TOKEN, tape.head);
            }
            tape.mustTake(':');
        }

        private int takeNumber(int cell, int low, int high) {
            int value = tape.takeNumber();
            if (value < low || value > high) {
                tape.refuse(WRONG_NUMBER, tape.numberAt);
            }
            draft.put(cell, value);
            return value;
        }

        /** Takes a list of numbers into the cells from the given one on and answers how many came. */
        private int takeList(int form, int least, int most, int cell, int low, int high) {
            int lowest = low;
            int n = 0;
            tape.mustTake('[');
            boolean numberMustCome = !tape.sees(']');
            while (numberMustCome && n <= most) {
                int value = tape.takeNumber();
                // One too many is wrong as that whatever its value is, so this is asked first.
                if (n == most) {
                    tape.refuse(WRONG_COUNT, tape.numberAt);
                }
                if (value < lowest || value > high) {
                    tape.refuse(WRONG_NUMBER, tape.numberAt);
                }
                draft.put(cell + n, value);
                n++;
                lowest = form == GROWING ? value + 1 : low;
                numberMustCome = tape.takes(',');
            }
            boolean tooFew = n < least || form == WHOLE_THREES && n % 3 != 0;
            if (tooFew && tape.sees(']')) {
                tape.refuse(WRONG_COUNT, tape.head);
            }
            tape.mustTake(']');
            return n;
        }
    }
}
