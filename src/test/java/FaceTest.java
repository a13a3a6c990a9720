import java.lang.reflect.Constructor;
import java.lang.reflect.Field;
import java.lang.reflect.Method;
import java.lang.reflect.Modifier;
import java.util.Set;
import java.util.TreeSet;

/** The class has the public face of the document and nothing else that can be seen from outside. */
public final class FaceTest {
    private static final Set<String> FACE = Set.of(
            "public static final int TextEnds.NONE",
            "public TextEnds(int,int,int)",
            "public boolean TextEnds.feed(int)",
            "public int TextEnds.feedAll(int,int,int,int,int)",
            "public int TextEnds.build()",
            "public int TextEnds.sa(int)",
            "public int TextEnds.lcp(int)",
            "public int TextEnds.rank(int)",
            "public int TextEnds.common(int,int)",
            "public boolean TextEnds.patFeed(int)",
            "public void TextEnds.patClear()",
            "public int TextEnds.search()",
            "public int TextEnds.hit(int)",
            "public int TextEnds.repeated()",
            "public int TextEnds.repeatedAt()",
            "public int TextEnds.different()",
            "public int TextEnds.count(int)",
            "public void TextEnds.clear()");

    public static void main(String[] args) {
        Set<String> seen = new TreeSet<>();
        for (Field field : TextEnds.class.getDeclaredFields()) {
            addIfSeen(seen, field.getModifiers(), field.toString());
        }
        for (Constructor<?> constructor : TextEnds.class.getDeclaredConstructors()) {
            addIfSeen(seen, constructor.getModifiers(), constructor.toString());
        }
        for (Method method : TextEnds.class.getDeclaredMethods()) {
            addIfSeen(seen, method.getModifiers(), method.toString());
        }
        for (String member : FACE) {
            Check.due("has " + member, seen.contains(member), true);
        }
        for (String member : seen) {
            Check.due("may have " + member, FACE.contains(member), true);
        }
        int modifiers = TextEnds.class.getModifiers();
        Check.due("public", Modifier.isPublic(modifiers), true);
        Check.due("final", Modifier.isFinal(modifiers), true);
        Check.due("NONE", TextEnds.NONE, -1);
        Check.end();
    }

    private static void addIfSeen(Set<String> seen, int modifiers, String member) {
        if (!Modifier.isPrivate(modifiers)) {
            seen.add(member);
        }
    }
}
