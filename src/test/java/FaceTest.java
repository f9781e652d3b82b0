import java.lang.reflect.Constructor;
import java.lang.reflect.Field;
import java.lang.reflect.Method;
import java.lang.reflect.Modifier;
import java.util.Arrays;
import java.util.Set;
import java.util.TreeSet;

/** The class has the document's face, and no other member that can be seen. */
public final class FaceTest {
    private static final String INDEX = "java.lang.IndexOutOfBoundsException";
    private static final String ARGUMENT = "java.lang.IllegalArgumentException";
    private static final String STATE = "java.lang.IllegalStateException";

    private FaceTest() {
    }

    public static void main(String[] args) {
        theClass();
        theMethods();
        theFields();
        theClassesInside();
        Check.end("FaceTest");
    }

    private static void theClass() {
        int modifiers = WeaveShares.class.getModifiers();
        Check.that("public and final", Modifier.isPublic(modifiers) && Modifier.isFinal(modifiers));
        Check.that("extends Object", WeaveShares.class.getSuperclass() == Object.class);
        Check.due("interfaces", WeaveShares.class.getInterfaces().length, 0);
        Constructor<?>[] made = WeaveShares.class.getDeclaredConstructors();
        Check.due("constructors", made.length, 1);
        Check.that("constructor public", Modifier.isPublic(made[0].getModifiers()));
        Check.due("its parameters", made[0].getParameterCount(), 0);
        Check.due("its exceptions", made[0].getExceptionTypes().length, 0);
    }

    private static void theMethods() {
        Set<String> want = new TreeSet<>(Arrays.asList(
                "int loom/4" + INDEX + ARGUMENT, "int yarn/3" + INDEX + ARGUMENT + STATE,
                "int store/2" + INDEX + ARGUMENT + STATE, "int give/4" + INDEX + ARGUMENT + STATE,
                "int order/5" + INDEX + ARGUMENT + STATE, "int cancel/1" + INDEX,
                "int set/2" + INDEX + ARGUMENT, "int pass/1" + ARGUMENT + STATE,
                "int append/1" + ARGUMENT + STATE, "int clearBuffer/0", "int firstError/0",
                "int takeAll/0" + ARGUMENT + STATE, "int undo/0" + STATE,
                "int weaver/2" + INDEX + ARGUMENT, "int share/2" + INDEX,
                "int orderOf/2" + ARGUMENT, "int wovenBy/2" + ARGUMENT + INDEX,
                "int next/2" + INDEX + ARGUMENT, "int count/1" + ARGUMENT, "int setting/1" + INDEX,
                "int ifPassed/2" + ARGUMENT, "int doneIn/1" + INDEX, "int bestRule/1" + ARGUMENT,
                "int dueNow/2" + INDEX, "double evenness/0", "long digest/0"));
        Set<String> names = new TreeSet<>();
        Set<String> got = new TreeSet<>();
        for (Method method : WeaveShares.class.getDeclaredMethods()) {
            if (Modifier.isPublic(method.getModifiers())) {
                got.add(face(method));
                names.add(method.getName());
            }
        }
        Check.that("the public methods are " + got, want.equals(got));
        for (Method method : WeaveShares.class.getDeclaredMethods()) {
            boolean seen = Modifier.isPublic(method.getModifiers());
            Check.that(method + " is neither public nor private",
                    seen || Modifier.isPrivate(method.getModifiers()));
        }
        privateNames(WeaveShares.class, names);
        for (Class<?> inside : WeaveShares.class.getDeclaredClasses()) {
            privateNames(inside, names);
        }
    }

    /** Rule 1 of the language says it of all private methods, wherever they stand. */
    private static void privateNames(Class<?> one, Set<String> names) {
        for (Method method : one.getDeclaredMethods()) {
            Check.that(method + " bears a public name",
                    !Modifier.isPrivate(method.getModifiers()) || !names.contains(method.getName()));
        }
    }

    private static String face(Method method) {
        StringBuilder text = new StringBuilder(method.getReturnType().getName());
        text.append(' ').append(method.getName()).append('/').append(method.getParameterCount());
        for (Class<?> parameter : method.getParameterTypes()) {
            Check.that(method + " takes ints alone", parameter == int.class);
        }
        for (Class<?> exception : method.getExceptionTypes()) {
            text.append(exception.getName());
        }
        return text.toString();
    }

    private static void theFields() {
        int seen = 0;
        int own = 0;
        for (Field field : WeaveShares.class.getDeclaredFields()) {
            int modifiers = field.getModifiers();
            seen += Modifier.isPublic(modifiers) ? 1 : 0;
            own += Modifier.isStatic(modifiers) ? 0 : 1;
            boolean none = field.getName().equals("NONE") && Modifier.isPublic(modifiers)
                    && Modifier.isStatic(modifiers) && Modifier.isFinal(modifiers);
            Check.that(field + " can be seen", none || Modifier.isPrivate(modifiers));
            Check.that(field + " is static and not final",
                    !Modifier.isStatic(modifiers) || Modifier.isFinal(modifiers));
        }
        Check.due("public fields", seen, 1);
        Check.that("some twenty fields at most", own <= 24);
    }

    private static void theClassesInside() {
        Class<?>[] inside = WeaveShares.class.getDeclaredClasses();
        Check.that("some twelve classes at most", inside.length <= 13);
        for (Class<?> one : inside) {
            int modifiers = one.getModifiers();
            Check.that(one + " is static and not public", Modifier.isStatic(modifiers)
                    && !Modifier.isPublic(modifiers) && !Modifier.isProtected(modifiers));
            int own = 0;
            for (Field field : one.getDeclaredFields()) {
                own += Modifier.isStatic(field.getModifiers()) ? 0 : 1;
            }
            Check.that(one + " has some twenty fields at most", own <= 24);
        }
    }
}
