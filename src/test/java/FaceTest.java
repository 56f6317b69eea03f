import java.lang.reflect.Constructor;
import java.lang.reflect.Field;
import java.lang.reflect.Method;
import java.lang.reflect.Modifier;
import java.util.Arrays;
import java.util.Set;
import java.util.TreeSet;

/** The document's public face, no other member that can be seen, and no static state. */
final class FaceTest {
    private static final String[] METHODS = {
        "int type(int, int, int, int, int)", "int implement(int, int, int)",
        "int member(int, int, int, int, int)", "int constant(int, int, int, int)",
        "int remove(int, int)", "int drop(int, int, int)", "int copy()", "void swap()",
        "int suppress(int, int, boolean)", "int supertypes(int, int)",
        "int look(int, int, int, int)", "int findings()", "int finding(int, int)",
        "int verdict()", "int byRule(int)", "int count(int)",
    };

    public static void main(String[] args) throws ReflectiveOperationException {
        Class<?> face = CompatibilityJudge.class;
        Check.due(face.getModifiers(), Modifier.PUBLIC | Modifier.FINAL);
        methodsOf(face);
        constructorsOf(face);
        fieldsOf(face);
        for (Class<?> inside : face.getDeclaredClasses()) {
            Check.due(Modifier.isStatic(inside.getModifiers()) ? 1 : 0, 1);
            Check.due(Modifier.isPublic(inside.getModifiers()) ? 1 : 0, 0);
            Check.due(inside.getDeclaredFields().length <= 20 ? 1 : 0, 1);
        }
        Check.due(face.getDeclaredClasses().length <= 12 ? 1 : 0, 1);
        Check.end();
    }

    private static void methodsOf(Class<?> face) {
        Set<String> publicOnes = new TreeSet<>();
        Set<String> publicNames = new TreeSet<>();
        Set<String> privateNames = new TreeSet<>();
        for (Method method : face.getDeclaredMethods()) {
            if (Modifier.isPrivate(method.getModifiers())) {
                privateNames.add(method.getName());
                continue;
            }
            Check.due(method.getModifiers(), Modifier.PUBLIC);
            publicNames.add(method.getName());
            String parameters = Arrays.toString(method.getParameterTypes());
            publicOnes.add(method.getReturnType() + " " + method.getName() + "("
                    + parameters.substring(1, parameters.length() - 1) + ")");
        }
        Check.same(publicOnes.toString(), new TreeSet<>(Arrays.asList(METHODS)).toString());
        privateNames.retainAll(publicNames);
        Check.same(privateNames.toString(), "[]");
    }

    private static void constructorsOf(Class<?> face) {
        Constructor<?>[] constructors = face.getDeclaredConstructors();
        Check.due(constructors.length, 1);
        Check.due(constructors[0].getModifiers(), Modifier.PUBLIC);
        Check.due(constructors[0].getParameterCount(), 0);
    }

    private static void fieldsOf(Class<?> face) throws ReflectiveOperationException {
        for (Field field : face.getDeclaredFields()) {
            int modifiers = field.getModifiers();
            if (field.getName().equals("REFUSED")) {
                Check.due(modifiers, Modifier.PUBLIC | Modifier.STATIC | Modifier.FINAL);
                Check.due(field.getInt(null), -1);
                continue;
            }
            Check.due(Modifier.isPrivate(modifiers) ? 1 : 0, 1);
            if (Modifier.isStatic(modifiers)) {
                Check.due(Modifier.isFinal(modifiers) ? 1 : 0, 1);
            }
        }
    }
}
