import java.lang.reflect.Constructor;
import java.lang.reflect.Field;
import java.lang.reflect.Method;
import java.lang.reflect.Modifier;
import java.util.Set;
import java.util.TreeSet;

/** The class shows the members of the document's face, and none beside them. */
public final class FaceTest {
    private static final String[] FACE = {
        "public SearchWire()",
        "public static final int SearchWire.NONE",
        "public int SearchWire.record(int)",
        "public int SearchWire.term(int,int,int)",
        "public int SearchWire.question(int,int,int,int)",
        "public int SearchWire.session(int,int)",
        "public int SearchWire.search(int,int,int)",
        "public int SearchWire.size(int,int)",
        "public int SearchWire.present(int,int,int,int)",
        "public int SearchWire.segment(int,int,int)",
        "public int SearchWire.at(int,int)",
        "public int SearchWire.sort(int,int,int,boolean)",
        "public int SearchWire.scan(int,int,int,int,int)",
        "public int SearchWire.scanned(int,int,int) throws java.lang.ArrayIndexOutOfBoundsException",
        "public int SearchWire.drop(int,int)",
        "public int SearchWire.close(int)",
        "public int SearchWire.state(int,int)",
    };

    public static void main(String[] args) {
        Set<String> want = new TreeSet<>(Set.of(FACE));
        Set<String> got = shownMembers();
        boolean isFinal = Modifier.isFinal(SearchWire.class.getModifiers());
        if (!want.equals(got) || !isFinal) {
            System.out.println("the face is " + got + ", due is " + want + ", final: " + isFinal);
            System.exit(1);
        }
        System.out.println("the face is as due");
    }

    private static Set<String> shownMembers() {
        Set<String> shown = new TreeSet<>();
        for (Constructor<?> c : SearchWire.class.getDeclaredConstructors()) {
            addIfShown(shown, c.getModifiers(), c.toString());
        }
        for (Field f : SearchWire.class.getDeclaredFields()) {
            addIfShown(shown, f.getModifiers(), f.toString());
        }
        for (Method m : SearchWire.class.getDeclaredMethods()) {
            addIfShown(shown, m.getModifiers(), m.toString());
        }
        return shown;
    }

    private static void addIfShown(Set<String> shown, int modifiers, String member) {
        if (!Modifier.isPrivate(modifiers)) {
            shown.add(member);
        }
    }
}
