import java.lang.reflect.InvocationTargetException;
import java.lang.reflect.Method;
import java.nio.charset.StandardCharsets;
import java.util.ArrayList;
import java.util.Comparator;
import java.util.List;
import java.util.Random;

/** Runs of 512 calls from fixed seeds, each call answered by the class and by the plain model. */
public final class RandomRunsTest {
    private static final int RUNS = 250;
    private static final int CALLS = 512;

    private final Random random;
    private final FreeGroupCalculator x = new FreeGroupCalculator();
    private final PlainModel model = new PlainModel();
    private final int run;
    private int calls;
    private int rank = 2;

    private RandomRunsTest(int run) {
        this.run = run;
        this.random = new Random(run);
    }

    public static void main(String[] args) throws IllegalAccessException {
        int runs = args.length > 0 ? Integer.parseInt(args[0]) : RUNS;
        List<Method> methods = new ArrayList<>(List.of(FreeGroupCalculator.class.getDeclaredMethods()));
        methods.removeIf(method -> !java.lang.reflect.Modifier.isPublic(method.getModifiers()));
        methods.sort(Comparator.comparing(Method::getName));
        for (int run = 0; run < runs; run++) {
            new RandomRunsTest(run).start(methods);
        }
        Check.end();
    }

    private void start(List<Method> methods) throws IllegalAccessException {
        if (random.nextInt(8) != 0) {
            text(randomText());
            call("load");
        }
        while (calls < CALLS) {
            Method method = methods.get(random.nextInt(methods.size()));
            switch (method.getName()) {
                case "append", "truncate" -> partOfText();
                case "load" -> loadRarely();
                case "setRegister" -> setRegister();
                case "formatWord", "formatBasisWord", "formatRepresentative" -> readFormatted(method);
                default -> call(method, arguments(method));
            }
        }
    }

    private void partOfText() throws IllegalAccessException {
        if (random.nextBoolean()) {
            call("append", random.nextInt(), 0x61424162, 0x20206161, 0x62413b0a, random.nextInt());
        }
        call("truncate", random.nextInt(30) - 3);
    }

    private void loadRarely() throws IllegalAccessException {
        if (random.nextInt(6) == 0) {
            call("truncate", 0);
            text(randomText());
            call("load");
        }
    }

    private void setRegister() throws IllegalAccessException {
        if (random.nextInt(10) > 0) {
            call("truncate", 0);
            text(randomWord(random.nextInt(10) == 0 ? 5 + random.nextInt(80) : random.nextInt(8)));
        }
        call("setRegister", small(8));
    }

    private void readFormatted(Method method) throws IllegalAccessException {
        Object length = call(method, arguments(method));
        if (length instanceof Integer n) {
            for (int i = 0; i <= n && i < 12; i++) {
                call("formattedCharacter", random.nextInt(n + 1));
            }
        }
    }

    private int[] arguments(Method method) {
        int[] result = new int[method.getParameterCount()];
        String name = method.getName();
        for (int i = 0; i < result.length; i++) {
            result[i] = small(8);
        }
        boolean takesSubgroup = name.endsWith("Count") || name.startsWith("subgroup") || name.equals("index")
                || name.equals("contains") || name.equals("neighbour") || name.equals("reachedVertex")
                || name.equals("smallestPower") || name.equals("isNormal") || name.equals("containsSubgroup")
                || name.equals("representativeLength") || name.endsWith("GeneratingWord")
                || name.equals("formatBasisWord") || name.equals("formatRepresentative");
        if (takesSubgroup) {
            result[0] = small(2);
        }
        switch (name) {
            case "letter", "coreLetter" -> result[1] = random.nextInt(10) == 0 ? small(60) : small(8);
            case "exponentSum" -> result[1] = small(rank);
            case "substitute" -> result[2] = small(rank);
            case "magnusCoefficient" -> {
                result[1] = small(rank);
                result[2] = small(rank);
            }
            case "magnusNorm" -> result[1] = small(5);
            case "containsSubgroup" -> result[1] = small(2);
            case "neighbour" -> {
                result[1] = random.nextBoolean() ? small(6) : small(60);
                result[2] = small(2 * rank);
            }
            case "representativeLength", "formatRepresentative" ->
                result[1] = random.nextBoolean() ? small(6) : small(60);
            case "formatBasisWord" -> result[1] = small(3);
            case "setPower" -> result[2] = random.nextBoolean() ? random.nextInt(9) - 4 : random.nextInt(45) - 22;
            case "removeGeneratingWord" -> result[1] = small(4);
            case "formattedCharacter" -> result[0] = small(20);
            default -> { }
        }
        return result;
    }

    /** Mostly a number from 0 below the count, now and then one just outside or far away. */
    private int small(int count) {
        int kind = random.nextInt(60);
        if (kind == 0) {
            return random.nextInt();
        }
        if (kind == 1) {
            return random.nextBoolean() ? -1 : count;
        }
        return random.nextInt(count);
    }

    private String randomWord(int length) {
        String letters = "aAbBcCdD".substring(0, 2 * rank);
        StringBuilder word = new StringBuilder();
        int variety = 1 + random.nextInt(letters.length());
        for (int i = 0; i < length; i++) {
            word.append(letters.charAt(random.nextInt(variety)));
        }
        return word.toString();
    }

    private String randomText() {
        rank = 1 + random.nextInt(4);
        if (random.nextInt(6) == 0) {
            return longWords();
        }
        StringBuilder text = new StringBuilder("rank " + rank + ";");
        int statements = random.nextInt(25);
        for (int i = 0; i < statements && text.length() < 500; i++) {
            text.append(random.nextBoolean() ? "\n" : " ".repeat(random.nextInt(3)));
            if (random.nextBoolean()) {
                text.append("join ").append(random.nextInt(2)).append(' ').append(random.nextInt(8));
            } else {
                text.append("set").append(random.nextInt(8));
                int items = 1 + random.nextInt(3);
                for (int k = 0; k < items; k++) {
                    int length = random.nextInt(6) == 0 ? random.nextInt(62) : random.nextInt(9);
                    text.append(' ').append(length == 0 ? "1" : randomWord(length));
                }
            }
            text.append(';');
        }
        if (random.nextInt(3) == 0) {
            spoil(text);
        }
        text.setLength(Math.min(text.length(), 600));
        return text.toString();
    }

    private String longWords() {
        StringBuilder text = new StringBuilder("rank " + rank + ";");
        for (int i = 0; i < 6; i++) {
            text.append("set ").append(i).append(' ').append(randomWord(40 + random.nextInt(21))).append(';');
        }
        for (int i = 0; i < 6; i++) {
            text.append("join 0 ").append(i).append(';');
            text.append("join 1 ").append(random.nextInt(6)).append(';');
        }
        return text.toString();
    }

    private void spoil(StringBuilder text) {
        String marks = "019;; \nsetjoinrankabcdABCDxZ-\t\u00e9";
        int place = random.nextInt(text.length());
        char mark = marks.charAt(random.nextInt(marks.length()));
        switch (random.nextInt(3)) {
            case 0 -> text.setCharAt(place, mark);
            case 1 -> text.insert(place, mark);
            default -> text.deleteCharAt(place);
        }
    }

    private void text(String text) throws IllegalAccessException {
        byte[] bytes = text.getBytes(StandardCharsets.ISO_8859_1);
        for (int i = 0; i < bytes.length; i += 20) {
            call("append", Check.four(bytes, i), Check.four(bytes, i + 4), Check.four(bytes, i + 8),
                    Check.four(bytes, i + 12), Check.four(bytes, i + 16));
        }
        call("truncate", bytes.length);
    }

    private Object call(String name, int... arguments) throws IllegalAccessException {
        Class<?>[] types = new Class<?>[arguments.length];
        java.util.Arrays.fill(types, int.class);
        try {
            return call(FreeGroupCalculator.class.getMethod(name, types), arguments);
        } catch (NoSuchMethodException e) {
            throw new IllegalStateException(e);
        }
    }

    private Object call(Method method, int[] arguments) throws IllegalAccessException {
        if (calls >= CALLS) {
            return "the run has ended";
        }
        calls++;
        Object due;
        try {
            due = answer(PlainModel.class.getMethod(method.getName(), method.getParameterTypes()), model, arguments);
        } catch (NoSuchMethodException e) {
            throw new IllegalStateException(e);
        }
        Object got = answer(method, x, arguments);
        if (method.getName().equals("load") && got instanceof Integer loaded) {
            rank = loaded;
        } else if (method.getName().equals("load")) {
            rank = model.groupRank();
        }
        Check.same("run " + run + " call " + calls + " " + method.getName() + java.util.Arrays.toString(arguments),
                got, due);
        return got;
    }

    private static Object answer(Method method, Object on, int[] arguments) throws IllegalAccessException {
        Object[] boxed = new Object[arguments.length];
        for (int i = 0; i < boxed.length; i++) {
            boxed[i] = arguments[i];
        }
        try {
            Object result = method.invoke(on, boxed);
            return result == null ? "nothing" : result;
        } catch (InvocationTargetException e) {
            return e.getCause().getClass().getName();
        }
    }
}
