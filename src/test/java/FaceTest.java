import java.lang.reflect.Constructor;
import java.lang.reflect.Field;
import java.lang.reflect.Method;
import java.lang.reflect.Modifier;
import java.util.Arrays;
import java.util.List;
import java.util.Set;
import java.util.TreeSet;

/** The public face: exactly the constants, the constructor and the methods of the document. */
public final class FaceTest {
    private static final String I = "IndexOutOfBoundsException";
    private static final String A = "IllegalArgumentException";
    private static final String S = "IllegalStateException";
    private static final String N = "NoSuchElementException";

    private static final String[] METHODS = {
        "int append 5 " + S, "void truncate 1 " + A, "int load 0 " + A, "int errorKind 0", "int errorPosition 0",
        "int groupRank 0", "int wordLength 1 " + I, "char letter 2 " + I, "boolean areEqual 2 " + I,
        "boolean areInverse 2 " + I, "int compare 2 " + I, "int exponentSum 2 " + I, "int commonPrefix 2 " + I,
        "int cancellation 2 " + I, "boolean doCommute 2 " + I, "int coreLength 1 " + I, "char coreLetter 2 " + I,
        "boolean areConjugate 2 " + I, "int rotation 2 " + I + " " + N, "int rootExponent 1 " + I + " " + N,
        "int magnusDegree 1 " + I, "int magnusCoefficient 3 " + I, "long magnusNorm 2 " + I + " " + A,
        "int generatingWordCount 1 " + I, "int vertexCount 1 " + I, "int edgeCount 1 " + I, "int neighbour 3 " + I,
        "int subgroupRank 1 " + I, "int index 1 " + I, "boolean contains 2 " + I, "int reachedVertex 2 " + I,
        "int smallestPower 2 " + I, "boolean isNormal 1 " + I, "boolean containsSubgroup 2 " + I,
        "int intersectionRank 0", "int intersectionIndex 0", "int representativeLength 2 " + I,
        "int setRegister 1 " + I + " " + A + " " + S, "int setProduct 3 " + I + " " + S, "int setInverse 2 " + I,
        "int setConjugate 3 " + I + " " + S, "int setCommutator 3 " + I + " " + S,
        "int setPower 3 " + I + " " + A + " " + S, "int setRoot 2 " + I + " " + N, "int substitute 4 " + I + " " + S,
        "int addGeneratingWord 2 " + I + " " + S, "int removeGeneratingWord 2 " + I, "int undo 0 " + S, "int save 0",
        "int restore 0 " + S, "int formatWord 1 " + I, "int formatBasisWord 2 " + I,
        "int formatRepresentative 2 " + I, "char formattedCharacter 1 " + I
    };

    private static final Set<String> CONSTANTS = Set.of("NONE=-1", "NO_ERROR=0", "SYNTAX_ERROR=1",
            "NUMBER_OUT_OF_RANGE=2", "UNKNOWN_GENERATOR=3", "WORD_TOO_LONG=4", "TOO_MANY=5");

    public static void main(String[] args) throws IllegalAccessException {
        Class<FreeGroupCalculator> face = FreeGroupCalculator.class;
        Check.same("modifiers of the class", face.getModifiers(), Modifier.PUBLIC | Modifier.FINAL);
        Check.same("methods", methods(face), new TreeSet<>(List.of(METHODS)));
        Check.same("constants", constants(face), new TreeSet<>(CONSTANTS));
        Constructor<?>[] constructors = face.getDeclaredConstructors();
        Check.same("constructors", constructors.length, 1);
        Check.same("constructor's parameters", constructors[0].getParameterCount(), 0);
        Check.same("constructor's modifiers", constructors[0].getModifiers(), Modifier.PUBLIC);
        Check.same("constructor's exceptions", constructors[0].getExceptionTypes().length, 0);
        classesInside(face);
        Check.end();
    }

    private static TreeSet<String> methods(Class<?> face) {
        TreeSet<String> found = new TreeSet<>();
        TreeSet<String> publicNames = new TreeSet<>();
        for (Method method : face.getDeclaredMethods()) {
            if (Modifier.isPublic(method.getModifiers())) {
                publicNames.add(method.getName());
                found.add(described(method));
                Check.same("parameters of " + method, Arrays.stream(method.getParameterTypes())
                        .allMatch(type -> type == int.class), true);
                Check.same(method + " is static", Modifier.isStatic(method.getModifiers()), false);
            }
        }
        for (Method method : face.getDeclaredMethods()) {
            if (!Modifier.isPublic(method.getModifiers())) {
                Check.same(method + " is private", Modifier.isPrivate(method.getModifiers()), true);
                Check.same(method + " bears a public name", publicNames.contains(method.getName()), false);
            }
        }
        return found;
    }

    private static String described(Method method) {
        StringBuilder text = new StringBuilder(method.getReturnType() + " " + method.getName() + " "
                + method.getParameterCount());
        for (Class<?> exception : method.getExceptionTypes()) {
            text.append(' ').append(exception.getSimpleName());
        }
        return text.toString();
    }

    private static TreeSet<String> constants(Class<?> face) throws IllegalAccessException {
        TreeSet<String> found = new TreeSet<>();
        for (Field field : face.getDeclaredFields()) {
            int modifiers = field.getModifiers();
            if (Modifier.isPublic(modifiers)) {
                found.add(field.getName() + "=" + field.getInt(null));
                Check.same(field + " is static and final", Modifier.isStatic(modifiers)
                        && Modifier.isFinal(modifiers) && field.getType() == int.class, true);
            } else {
                Check.same(field + " is private", Modifier.isPrivate(modifiers), true);
            }
        }
        return found;
    }

    private static void classesInside(Class<?> face) {
        Check.same("at most some twelve classes", face.getDeclaredClasses().length < 12, true);
        for (Class<?> inside : face.getDeclaredClasses()) {
            Check.same(inside + " is private and static", Modifier.isPrivate(inside.getModifiers())
                    && Modifier.isStatic(inside.getModifiers()), true);
            for (Method method : inside.getDeclaredMethods()) {
                Check.same(method + " bears a public name", Arrays.stream(METHODS)
                        .anyMatch(line -> line.split(" ")[1].equals(method.getName())), false);
            }
        }
    }
}
