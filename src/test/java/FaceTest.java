import java.lang.reflect.Constructor;
import java.lang.reflect.Field;
import java.lang.reflect.Method;
import java.lang.reflect.Modifier;
import java.util.Set;
import java.util.TreeSet;

/** The public face of the document, and nothing else that can be seen from outside. */
public final class FaceTest {
    private static final String[] FACE = {
        "int add(int,int,int)", "boolean edge(int,int)", "boolean capacity(int,int)", "int check()",
        "boolean start(int)", "int begin(int)", "int finish(int,int)", "int fail(int)",
        "int cancel()", "int state()", "int thrower()", "int round()", "int lost()",
        "int steals()", "int runs(int)", "int arrivals(int)", "int where(int)",
        "int lineAt(int,int)", "int held(int)",
    };

    public static void main(String[] args) {
        Class<?> face = SubflowExecutor.class;
        Due.is("the constant", SubflowExecutor.NONE, -1);
        Due.yes("public and final", Modifier.isPublic(face.getModifiers())
                && Modifier.isFinal(face.getModifiers()));
        methods(face);
        fields(face);
        constructors(face);
        classesInside(face);
        Due.close("FaceTest");
    }

    private static void methods(Class<?> face) {
        Set<String> seen = new TreeSet<>();
        Set<String> publicNames = new TreeSet<>();
        for (Method m : face.getDeclaredMethods()) {
            if (!Modifier.isPrivate(m.getModifiers())) {
                seen.add(signature(m));
                publicNames.add(m.getName());
                Due.yes(m + " is public, not static", m.getModifiers() == Modifier.PUBLIC);
            }
        }
        Due.yes("methods " + seen, seen.equals(new TreeSet<>(Set.of(FACE))));
        for (Method m : face.getDeclaredMethods()) {
            if (Modifier.isPrivate(m.getModifiers())) {
                Due.no(m + " bears a public name", publicNames.contains(m.getName()));
            }
        }
    }

    private static String signature(Method m) {
        StringBuilder text = new StringBuilder();
        for (Class<?> type : m.getParameterTypes()) {
            text.append(text.isEmpty() ? "" : ",").append(type.getName());
        }
        return m.getReturnType().getName() + " " + m.getName() + "(" + text + ")";
    }

    private static void fields(Class<?> type) {
        for (Field f : type.getDeclaredFields()) {
            int modifiers = f.getModifiers();
            if (Modifier.isStatic(modifiers)) {
                Due.yes(f + " is final", Modifier.isFinal(modifiers));
            }
            if (type == SubflowExecutor.class && !f.getName().equals("NONE")) {
                Due.yes(f + " is private", Modifier.isPrivate(modifiers));
            }
        }
    }

    private static void constructors(Class<?> face) {
        Constructor<?>[] made = face.getDeclaredConstructors();
        Due.is("constructors", made.length, 1);
        Due.yes("constructor(int)", Modifier.isPublic(made[0].getModifiers())
                && made[0].getParameterCount() == 1 && made[0].getParameterTypes()[0] == int.class);
    }

    private static void classesInside(Class<?> face) {
        for (Class<?> inside : face.getDeclaredClasses()) {
            int modifiers = inside.getModifiers();
            Due.yes(inside + " is static", Modifier.isStatic(modifiers));
            Due.no(inside + " is seen from outside",
                    Modifier.isPublic(modifiers) || Modifier.isProtected(modifiers));
            fields(inside);
        }
    }
}
