import java.lang.reflect.Constructor;
import java.lang.reflect.Field;
import java.lang.reflect.Method;
import java.lang.reflect.Modifier;
import java.util.Arrays;
import java.util.List;
import java.util.TreeSet;

/** The public face is the document's, and nothing else is to be seen from outside. */
public final class FaceTest {
    private static final List<String> METHODS = List.of(
        "boolean command(int, boolean)", "boolean force()", "boolean set(int, int)", "boolean give(int)", "int take()",
        "int run(int)", "int serve(int)", "void clear()", "boolean fill(int, int)", "int buffer(int)",
        "void protect(boolean)", "boolean spoil(int, int)", "int cells(int, int)", "int look(int)");

    public static void main(String[] args) throws NoSuchFieldException {
        int mods = FloppyDesk.class.getModifiers();
        Probe.due("FloppyDesk is public and final", Modifier.isPublic(mods) && Modifier.isFinal(mods) ? 1 : 0, 1);
        Probe.due("NONE", FloppyDesk.NONE, -1);
        int none = FloppyDesk.class.getDeclaredField("NONE").getModifiers();
        Probe.due("NONE is public static final", none, Modifier.PUBLIC | Modifier.STATIC | Modifier.FINAL);
        sameTexts("the methods", seenMethods(), new TreeSet<>(METHODS));
        sameTexts("the fields", seenFields(), new TreeSet<>(List.of("NONE")));
        Constructor<?>[] made = FloppyDesk.class.getDeclaredConstructors();
        Probe.due("constructors", made.length, 1);
        Probe.due("the constructor is public", Modifier.isPublic(made[0].getModifiers()) ? 1 : 0, 1);
        Probe.due("the constructor's parameters", made[0].getParameterCount(), 0);
        Probe.finish("FaceTest");
    }

    private static void sameTexts(String what, TreeSet<String> got, TreeSet<String> want) {
        if (!got.equals(want)) {
            System.out.println(what + " are " + got);
        }
        Probe.due(what, got.equals(want) ? 1 : 0, 1);
    }

    private static TreeSet<String> seenMethods() {
        TreeSet<String> seen = new TreeSet<>();
        for (Method m : FloppyDesk.class.getDeclaredMethods()) {
            if (!Modifier.isPrivate(m.getModifiers()) && !m.isSynthetic()) {
                String types = Arrays.toString(m.getParameterTypes()).replace("[", "(").replace("]", ")");
                seen.add(m.getReturnType() + " " + m.getName() + types);
                Probe.due(m + " is public, and not static", m.getModifiers(), Modifier.PUBLIC);
            }
        }
        return seen;
    }

    private static TreeSet<String> seenFields() {
        TreeSet<String> seen = new TreeSet<>();
        for (Field f : FloppyDesk.class.getDeclaredFields()) {
            if (!Modifier.isPrivate(f.getModifiers()) && !f.isSynthetic()) {
                seen.add(f.getName());
            }
        }
        return seen;
    }
}
