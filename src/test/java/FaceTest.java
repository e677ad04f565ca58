import java.lang.reflect.Constructor;
import java.lang.reflect.Field;
import java.lang.reflect.Member;
import java.lang.reflect.Method;
import java.lang.reflect.Modifier;
import java.util.Arrays;
import java.util.Set;
import java.util.TreeSet;

/** The class has the members of the document, and no others that can be seen from outside. */
public final class FaceTest {
    private static final String WRONG = " throws IllegalArgumentException";
    private static final String TRAPPED = WRONG + ", ArithmeticException";
    private static final String[] FACE = {
        "void load(int, int, int, int, int, int)" + WRONG,
        "int bits(int, int)",
        "int format(int)",
        "boolean direct(int)",
        "int flags()",
        "int lower(int)",
        "void trap(int)",
        "int two(int, int, int, int)" + TRAPPED,
        "int fused(int, int, int, int)" + TRAPPED,
        "int one(int, int, int)" + TRAPPED,
        "int scale(int, int, int)" + TRAPPED,
        "int convert(int, int, int)" + TRAPPED,
        "int number(int, int, int, int)" + TRAPPED,
        "long whole(int, int, boolean)" + TRAPPED,
        "int log(int)" + TRAPPED,
        "int compare(int, int, boolean)" + TRAPPED,
        "boolean ordered(int, int)" + WRONG,
        "int kind(int)",
        "boolean alike(int, int)",
        "boolean type(int)",
        "int read(int, int)" + TRAPPED,
        "int write(int)" + WRONG,
        "int output(int)"
    };

    private static int wrong = 0;

    public static void main(String[] args) {
        Class<?> face = DecimalBits.class;
        int open = face.getModifiers();
        hold("the class is public and final", Modifier.isPublic(open) && Modifier.isFinal(open));
        hold("the methods are " + methods(face), methods(face).equals(new TreeSet<>(Arrays.asList(FACE))));
        for (Field field : face.getDeclaredFields()) {
            boolean isNone = field.getName().equals("NONE") && field.getModifiers()
                == (Modifier.PUBLIC | Modifier.STATIC | Modifier.FINAL) && field.getType() == int.class;
            hold("field " + field.getName(), isNone || isPrivate(field));
        }
        Constructor<?>[] constructors = face.getDeclaredConstructors();
        hold("one constructor", constructors.length == 1 && constructors[0].getParameterCount() == 0
            && Modifier.isPublic(constructors[0].getModifiers()));
        for (Class<?> inside : face.getDeclaredClasses()) {
            int modifiers = inside.getModifiers();
            boolean hidden = !Modifier.isPublic(modifiers) && !Modifier.isProtected(modifiers);
            hold("class " + inside.getSimpleName(), hidden && Modifier.isStatic(modifiers));
            for (Method method : inside.getDeclaredMethods()) {
                hold("method " + method + " has a name of the face", !isNameOfFace(method.getName()));
            }
        }
        System.out.println("the face, wrong members: " + wrong);
        if (wrong > 0) {
            System.exit(1);
        }
    }

    private static void hold(String what, boolean holds) {
        if (!holds) {
            wrong++;
            System.out.println("not as told: " + what);
        }
    }

    private static boolean isPrivate(Member member) {
        return Modifier.isPrivate(member.getModifiers());
    }

    private static boolean isNameOfFace(String name) {
        return Arrays.stream(FACE).anyMatch(line -> line.contains(" " + name + "("));
    }

    private static Set<String> methods(Class<?> face) {
        Set<String> lines = new TreeSet<>();
        for (Method method : face.getDeclaredMethods()) {
            if (isPrivate(method)) {
                hold("private method " + method.getName() + " has a name of the face", !isNameOfFace(method.getName()));
            } else {
                hold(method + " is public and no more", method.getModifiers() == Modifier.PUBLIC);
                lines.add(line(method));
            }
        }
        return lines;
    }

    private static String line(Method method) {
        StringBuilder line = new StringBuilder(method.getReturnType() + " " + method.getName() + "(");
        line.append(joined(method.getParameterTypes())).append(")");
        Class<?>[] exceptions = method.getExceptionTypes();
        return exceptions.length == 0 ? line.toString() : line + " throws " + joined(exceptions);
    }

    private static String joined(Class<?>[] types) {
        return String.join(", ", Arrays.stream(types).map(Class::getSimpleName).toList());
    }
}
