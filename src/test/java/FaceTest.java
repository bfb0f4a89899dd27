import java.lang.reflect.Constructor;
import java.lang.reflect.Field;
import java.lang.reflect.Method;
import java.lang.reflect.Modifier;
import java.util.TreeSet;

/** The class shows the document's face, and no other member but private ones. */
public final class FaceTest {
    private static final String[] FACE = {
        "public final class WordIndex2",
        "public static final int WordIndex2.NONE",
        "public WordIndex2()",
        "public int WordIndex2.record()",
        "public void WordIndex2.field(int,int,int)",
        "public int WordIndex2.remove(int)",
        "public void WordIndex2.sign(int)",
        "public int WordIndex2.ask(int)",
        "public int WordIndex2.phrase(int)",
        "public int WordIndex2.near(int,int)",
        "public int WordIndex2.wild(int,boolean)",
        "public int WordIndex2.hit(int,int)",
        "public long WordIndex2.rank(int,int)",
        "public int WordIndex2.term(int,int,int)",
        "public int WordIndex2.nearest(int)",
        "public int WordIndex2.stop()",
        "public int WordIndex2.language(int,int)"};

    private FaceTest() {
    }

    public static void main(String[] args) {
        TreeSet<String> shown = new TreeSet<>();
        shown.add(WordIndex2.class.toGenericString());
        for (Field member : WordIndex2.class.getDeclaredFields()) {
            add(shown, member.getModifiers(), member.toString());
        }
        for (Constructor<?> member : WordIndex2.class.getDeclaredConstructors()) {
            add(shown, member.getModifiers(), member.toString());
        }
        for (Method member : WordIndex2.class.getDeclaredMethods()) {
            add(shown, member.getModifiers(), member.toString());
        }
        Check.due("the face", shown.toString(), new TreeSet<>(java.util.List.of(FACE)).toString());
        Check.end();
    }

    private static void add(TreeSet<String> shown, int modifiers, String text) {
        if (!Modifier.isPrivate(modifiers)) {
            shown.add(text);
        }
    }
}
