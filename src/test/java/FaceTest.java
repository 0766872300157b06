import java.lang.reflect.Constructor;
import java.lang.reflect.Field;
import java.lang.reflect.Method;
import java.lang.reflect.Modifier;
import java.util.HashSet;
import java.util.Set;

/** The members that others can see are those of the document, and no others. */
public final class FaceTest {
    private static final Set<String> FACE = Set.of(
            "public int WatchRows2.part(int,int,long) throws java.lang.ArithmeticException",
            "public int WatchRows2.edge(int,int,int)",
            "public int WatchRows2.deadline(int,int,int,long,long)",
            "public int WatchRows2.point(int,int,long)",
            "public int WatchRows2.cycle(long)",
            "public int WatchRows2.tolerance(int,int)",
            "public int WatchRows2.answer(int,long,long)",
            "public int WatchRows2.mode(int)",
            "public int WatchRows2.reset(int)",
            "public int WatchRows2.outer(long)",
            "public int WatchRows2.state(int)");

    public static void main(String[] args) {
        Set<String> seen = new HashSet<>();
        Set<String> names = new HashSet<>();
        for (Method m : WatchRows2.class.getDeclaredMethods()) {
            if (!Modifier.isPrivate(m.getModifiers())) {
                seen.add(m.toGenericString());
                names.add(m.getName());
            }
        }
        Due.is("visible methods " + seen, seen.equals(FACE) ? 1 : 0, 1);
        for (Method m : WatchRows2.class.getDeclaredMethods()) {
            if (Modifier.isPrivate(m.getModifiers())) {
                Due.is("a public name on " + m, names.contains(m.getName()) ? 1 : 0, 0);
            }
        }
        for (Field f : WatchRows2.class.getDeclaredFields()) {
            Due.is("private " + f, Modifier.isPrivate(f.getModifiers()) ? 1 : 0, 1);
        }
        Constructor<?>[] made = WatchRows2.class.getDeclaredConstructors();
        Due.is("constructors", made.length, 1);
        Due.is("constructor", made[0].toString().equals("public WatchRows2()") ? 1 : 0, 1);
        int kind = WatchRows2.class.getModifiers();
        Due.is("public final", Modifier.isPublic(kind) && Modifier.isFinal(kind) ? 1 : 0, 1);
        staticFieldsAreFinal(WatchRows2.class);
        for (Class<?> inside : WatchRows2.class.getDeclaredClasses()) {
            int seenBy = inside.getModifiers();
            Due.is("a static class " + inside, Modifier.isStatic(seenBy) ? 1 : 0, 1);
            Due.is("seen by others: " + inside, Modifier.isPublic(seenBy) || Modifier.isProtected(seenBy) ? 1 : 0, 0);
            staticFieldsAreFinal(inside);
        }
        Due.end();
    }

    /** Objects share nothing that a call could change. */
    private static void staticFieldsAreFinal(Class<?> type) {
        for (Field f : type.getDeclaredFields()) {
            if (Modifier.isStatic(f.getModifiers())) {
                boolean constant = Modifier.isFinal(f.getModifiers()) && f.getType().isPrimitive();
                Due.is("a constant " + f, constant ? 1 : 0, 1);
            }
        }
    }
}
