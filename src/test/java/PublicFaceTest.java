import java.lang.reflect.Constructor;
import java.lang.reflect.Field;
import java.lang.reflect.Member;
import java.lang.reflect.Method;
import java.lang.reflect.Modifier;
import java.util.Set;
import java.util.TreeSet;

/** The public face: what the document lists is there as it lists it, and nothing beside it is to be seen. */
final class PublicFaceTest {
    private static final Set<String> FACE = Set.of(
        "public static final int SceneText.NONE",
        "public SceneText()",
        "public boolean SceneText.feed(int,int,int,int,int)",
        "public boolean SceneText.end(int)",
        "public int SceneText.size()",
        "public int SceneText.load() throws java.lang.IllegalArgumentException",
        "public int SceneText.error(int)",
        "public int SceneText.count(int)",
        "public int SceneText.about(int,int,int)",
        "public int SceneText.at(int,int,int,int)",
        "public int SceneText.view(int)");

    public static void main(String[] args) {
        Check.sentence("The public face", "public final class SceneText");
        int modifiers = SceneText.class.getModifiers();
        Check.due("public", true, Modifier.isPublic(modifiers));
        Check.due("final", true, Modifier.isFinal(modifiers));
        Check.sentence("The public face", "(what it lists, and nothing else)");
        Set<String> seen = seen();
        for (String member : FACE) {
            Check.due(member, true, seen.contains(member));
        }
        for (String member : seen) {
            Check.due(member + " is of the face", true, FACE.contains(member));
        }
        Check.finish();
    }

    private static Set<String> seen() {
        Set<String> seen = new TreeSet<>();
        for (Field field : SceneText.class.getDeclaredFields()) {
            note(seen, field, field.toGenericString());
        }
        for (Constructor<?> constructor : SceneText.class.getDeclaredConstructors()) {
            note(seen, constructor, constructor.toGenericString());
        }
        for (Method method : SceneText.class.getDeclaredMethods()) {
            note(seen, method, method.toGenericString());
        }
        return seen;
    }

    private static void note(Set<String> seen, Member member, String told) {
        if (!Modifier.isPrivate(member.getModifiers())) {
            seen.add(told);
        }
    }
}
