import java.lang.reflect.Constructor;
import java.lang.reflect.Field;
import java.lang.reflect.Method;
import java.lang.reflect.Modifier;
import java.util.Set;
import java.util.TreeSet;

/** The public face has what the document names, and nothing else is to be seen from outside. */
public final class FaceTest {
    private static final Check CHECK = new Check();
    private static final Set<String> DUE = Set.of(
        "public static final int NONE", "public UnderText()", "int feed(int,int,int,int,int)", "int work(int)",
        "int fault(int)", "int half(int,int,int)", "int light(int,int,int,int)", "int list(int,int,int)",
        "int quarrels(int,int,int)", "int best(int,int,int)", "boolean price(int)", "int join()", "int leaf(int,int)",
        "int book(int,int)", "int led(int,int,int)", "int count(int)");

    public static void main(String[] args) {
        Set<String> seen = new TreeSet<>();
        for (Field f : UnderText.class.getDeclaredFields()) {
            if (!Modifier.isPrivate(f.getModifiers())) {
                seen.add(Modifier.toString(f.getModifiers()) + " " + f.getType().getSimpleName() + " " + f.getName());
            }
        }
        for (Constructor<?> c : UnderText.class.getDeclaredConstructors()) {
            seen.add(c.toString());
        }
        for (Method m : UnderText.class.getDeclaredMethods()) {
            if (!Modifier.isPrivate(m.getModifiers())) {
                seen.add(m.toString().replace("public ", "").replace("UnderText.", ""));
            }
        }
        for (String member : seen) {
            CHECK.due("in the document: " + member, true, DUE.contains(member));
        }
        for (String member : DUE) {
            CHECK.due("in the class: " + member, true, seen.contains(member));
        }
        CHECK.due("final", true, Modifier.isFinal(UnderText.class.getModifiers()));
        CHECK.end();
    }
}
