import java.nio.ByteBuffer;
import java.nio.charset.StandardCharsets;
import java.util.Arrays;

public final class ReadmeExample {
    public static void main(String[] args) {
        SceneText reader = new SceneText();
        load(reader, "{\"nodes\":[{\"parent\":-1,\"mesh\":-1,"
            + "\"move\":[10,20,30],\"turn\":[0,0,0],\"size\":[65536,65536,65536]}]}");
        load(reader, "{\"nodes\":[{\"parent\":0");
        System.out.println("nodes: " + reader.count(3) + ", the first one's move: "
            + reader.about(3, 0, 2) + " " + reader.about(3, 0, 3) + " " + reader.about(3, 0, 4));
    }

    private static void load(SceneText reader, String text) {
        if (!put(reader, text)) {
            System.out.println("the tape has no room");
            return;
        }
        try {
            System.out.println("taken, nodes: " + reader.load());
        } catch (IllegalArgumentException e) {
            System.out.println("refused, wrong is " + reader.error(0) + " at byte " + reader.error(1));
        }
    }

    /** Twenty bytes a call, the highest of each int first; what fills up the last call is cut off. */
    private static boolean put(SceneText reader, String text) {
        byte[] bytes = text.getBytes(StandardCharsets.ISO_8859_1);
        int size = reader.size() + bytes.length;
        ByteBuffer ints = ByteBuffer.wrap(Arrays.copyOf(bytes, (bytes.length + 19) / 20 * 20));
        while (ints.hasRemaining()) {
            if (!reader.feed(ints.getInt(), ints.getInt(), ints.getInt(), ints.getInt(), ints.getInt())) {
                return false;
            }
        }
        return reader.end(size);
    }
}
