import java.lang.reflect.Constructor;
import java.lang.reflect.Field;
import java.lang.reflect.Method;
import java.lang.reflect.Modifier;
import java.util.Arrays;
import java.util.Set;
import java.util.TreeSet;

/** The document's face, whole and nothing beside it (rule 1 of LANGUAGE.md). */
final class FaceTest {
    private static final Checks checks = new Checks("FaceTest");
    private static final String ARGUMENT = " IllegalArgumentException";
    private static final String BOTH = " IllegalArgumentException IllegalStateException";

    private static final String[] METHODS = {
        "boolean kind 2", "void branch 2" + BOTH, "boolean drop 1", "boolean region 4", "void paint 3" + ARGUMENT,
        "boolean corner 3", "void polygon 4" + ARGUMENT, "void copy 6" + ARGUMENT, "boolean entry 3",
        "void map 2" + ARGUMENT, "void combine 4" + ARGUMENT, "int commit 1" + BOTH, "int merge 2" + BOTH,
        "int conflict 3", "int settle 3" + ARGUMENT, "int value 4", "int origin 5", "int total 3" + ARGUMENT,
        "int differing 3", "int differs 4", "int nearest 3", "int about 2", "int blocks 1"};

    public static void main(String[] args) {
        Class<?> face = SurveyStore.class;
        checks.same("modifiers of the class", face.getModifiers(), Modifier.PUBLIC | Modifier.FINAL);
        methods(face);
        fields(face);
        Constructor<?>[] constructors = face.getDeclaredConstructors();
        checks.same("constructors", constructors.length, 1);
        checks.same("parameters of the constructor", constructors[0].getParameterCount(), 0);
        checks.same("modifiers of the constructor", constructors[0].getModifiers(), Modifier.PUBLIC);
        for (Class<?> inside : face.getDeclaredClasses()) {
            checks.yes(inside + " is static", Modifier.isStatic(inside.getModifiers()));
            checks.no(inside + " is public", Modifier.isPublic(inside.getModifiers()));
        }
        checks.end();
    }

    private static void methods(Class<?> face) {
        Set<String> due = new TreeSet<>(Arrays.asList(METHODS));
        Set<String> found = new TreeSet<>();
        Set<String> names = new TreeSet<>();
        for (Method m : face.getDeclaredMethods()) {
            if (Modifier.isPublic(m.getModifiers())) {
                found.add(faceOf(m));
                names.add(m.getName());
                checks.no(m + " is static", Modifier.isStatic(m.getModifiers()));
            }
        }
        checks.yes("public methods " + found + ", due are " + due, found.equals(due));
        for (Method m : face.getDeclaredMethods()) {
            boolean isPublic = Modifier.isPublic(m.getModifiers());
            checks.yes(m + " is public or private", isPublic || Modifier.isPrivate(m.getModifiers()));
            checks.yes(m + " bears the name of a public one", isPublic || !names.contains(m.getName()));
        }
    }

    private static String faceOf(Method m) {
        StringBuilder text = new StringBuilder();
        text.append(m.getReturnType()).append(' ').append(m.getName()).append(' ').append(m.getParameterCount());
        Set<String> thrown = new TreeSet<>();
        for (Class<?> e : m.getExceptionTypes()) {
            thrown.add(e.getSimpleName());
        }
        for (String e : thrown) {
            text.append(' ').append(e);
        }
        for (Class<?> p : m.getParameterTypes()) {
            checks.yes(m + " takes ints", p == int.class);
        }
        return text.toString();
    }

    private static void fields(Class<?> face) {
        Set<String> shown = new TreeSet<>();
        for (Field f : face.getDeclaredFields()) {
            int modifiers = f.getModifiers();
            if (Modifier.isPublic(modifiers)) {
                shown.add(f.getName());
                checks.yes(f + " is an int", f.getType() == int.class);
                checks.yes(f + " is static", Modifier.isStatic(modifiers));
            } else {
                checks.yes(f + " is private", Modifier.isPrivate(modifiers));
            }
            checks.yes(f + " is final if static", !Modifier.isStatic(modifiers) || Modifier.isFinal(modifiers));
        }
        checks.yes("constants " + shown, shown.equals(Set.of("NONE", "PENDING")));
    }
}
