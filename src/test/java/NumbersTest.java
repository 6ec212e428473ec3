import java.lang.reflect.InvocationTargetException;
import java.lang.reflect.Method;
import java.util.Arrays;
import java.util.Set;
import java.util.TreeSet;

/**
 * Every number that a call takes: a number that does not exist is refused wherever it stands, however near to or far
 * from those that exist it is, and no number that exists is refused.
 *
 * Below, each method has one letter for each of its numbers: R register, S subgroup, G generator, C code of a letter,
 * L letter of a word, K letter of a core, V vertex, W generating word, B remaining edge, F formatted character,
 * E exponent, D degree.
 */
public final class NumbersTest {
    private static final String[] METHODS = {
        "wordLength R", "letter RL", "areEqual RR", "areInverse RR", "compare RR", "exponentSum RG", "commonPrefix RR",
        "cancellation RR", "doCommute RR", "coreLength R", "coreLetter RK", "areConjugate RR", "rotation RR",
        "rootExponent R", "magnusDegree R", "magnusCoefficient RGG", "magnusNorm RD", "generatingWordCount S",
        "vertexCount S", "edgeCount S", "neighbour SVC", "subgroupRank S", "index S", "contains SR", "reachedVertex SR",
        "smallestPower SR", "isNormal S", "containsSubgroup SS", "representativeLength SV", "setRegister R",
        "setProduct RRR", "setInverse RR", "setConjugate RRR", "setCommutator RRR", "setPower RRE", "setRoot RR",
        "substitute RRGR", "addGeneratingWord SR", "removeGeneratingWord SW", "formatWord R", "formatBasisWord SB",
        "formatRepresentative SV", "formattedCharacter F"
    };

    // As a byte or a short integer many of these would be small numbers.
    private static final int[] FAR = {-1, -2, -7, -8, -128, -255, -256, -257, -32768, -65535, -65536, -16777216,
        Integer.MIN_VALUE, Integer.MIN_VALUE + 1, Integer.MIN_VALUE + 256, 127, 128, 255, 256, 257, 511, 512, 32767,
        32768, 65535, 65536, 65537, 1 << 24, 1 << 30, Integer.MAX_VALUE - 1, Integer.MAX_VALUE};

    // Each register has a core, and each subgroup has generating words, whatever the rank is.
    private static final String STATEMENTS = "set 0 aaa; set 1 aaaa; set 2 aaaaaa; set 3 a; set 4 AA; set 5 aaaaa;"
            + "set 6 AAA; set 7 A; join 0 1; join 0 2; join 1 0; join 1 2; join 1 6;";

    public static void main(String[] args) {
        everyMethodIsHere();
        for (String line : METHODS) {
            String[] parts = line.split(" ");
            for (int rank = 1; rank <= 4; rank++) {
                for (int place = 0; place < parts[1].length(); place++) {
                    numbersThatDoNotExist(parts[0], parts[1], place, rank);
                    numbersThatExist(parts[0], parts[1], place, rank);
                }
            }
        }
        Check.end();
    }

    private static void everyMethodIsHere() {
        Set<String> due = new TreeSet<>();
        for (Method method : FreeGroupCalculator.class.getDeclaredMethods()) {
            if (Arrays.asList(method.getExceptionTypes()).contains(IndexOutOfBoundsException.class)
                    && (method.getModifiers() & 1) != 0) {
                due.add(method.getName() + " " + method.getParameterCount());
            }
        }
        Set<String> here = new TreeSet<>();
        for (String line : METHODS) {
            String[] parts = line.split(" ");
            here.add(parts[0] + " " + parts[1].length());
        }
        Check.same("the methods that take numbers", here, due);
    }

    private static FreeGroupCalculator made(int rank) {
        FreeGroupCalculator x = Check.loaded("rank " + rank + "; " + STATEMENTS);
        x.formatWord(1);
        Check.put(x, "aA");
        return x;
    }

    private static int limit(FreeGroupCalculator x, char kind, int first) {
        switch (kind) {
            case 'R': return 8;
            case 'S': return 2;
            case 'G': return x.groupRank();
            case 'C': return 2 * x.groupRank();
            case 'L': return x.wordLength(first);
            case 'K': return x.coreLength(first);
            case 'V': return x.vertexCount(first);
            case 'W': return x.generatingWordCount(first);
            case 'B': return x.subgroupRank(first);
            case 'F': return 2;
            case 'E': return 21;
            default: return 5;
        }
    }

    private static void numbersThatDoNotExist(String name, String kinds, int place, int rank) {
        char kind = kinds.charAt(place);
        Class<?> due = kind == 'E' || kind == 'D' ? IllegalArgumentException.class : IndexOutOfBoundsException.class;
        FreeGroupCalculator x = made(rank);
        int[] numbers = firstNumbers(kinds);
        int limit = limit(x, kind, numbers[0]);
        for (int near = 0; near < 4; near++) {
            numbers[place] = limit + near;
            Check.same(call(name, numbers), answer(x, name, numbers), due);
        }
        for (int far : FAR) {
            if (kind != 'E' || far < -20 || far > 20) {
                numbers[place] = far;
                Check.same(call(name, numbers), answer(x, name, numbers), due);
            }
        }
    }

    // A call with numbers that exist may throw another exception.
    private static void numbersThatExist(String name, String kinds, int place, int rank) {
        char kind = kinds.charAt(place);
        Class<?> notDue = kind == 'E' || kind == 'D' ? IllegalArgumentException.class : IndexOutOfBoundsException.class;
        int[] numbers = firstNumbers(kinds);
        int limit = limit(made(rank), kind, numbers[0]);
        for (int number = kind == 'E' ? -20 : 0; number < limit; number++) {
            numbers[place] = number;
            Check.same(call(name, numbers) + " is not refused", answer(made(rank), name, numbers) == notDue, false);
        }
    }

    private static int[] firstNumbers(String kinds) {
        int[] numbers = new int[kinds.length()];
        if (kinds.charAt(0) == 'R') {
            numbers[0] = 1;
        }
        return numbers;
    }

    private static String call(String name, int[] numbers) {
        return name + Arrays.toString(numbers);
    }

    private static Object answer(FreeGroupCalculator x, String name, int[] numbers) {
        Class<?>[] types = new Class<?>[numbers.length];
        Object[] arguments = new Object[numbers.length];
        for (int i = 0; i < numbers.length; i++) {
            types[i] = int.class;
            arguments[i] = numbers[i];
        }
        try {
            return FreeGroupCalculator.class.getMethod(name, types).invoke(x, arguments);
        } catch (InvocationTargetException e) {
            return e.getCause().getClass();
        } catch (ReflectiveOperationException e) {
            return e;
        }
    }
}
