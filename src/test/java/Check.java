import java.nio.charset.StandardCharsets;

/** What the tests share: comparing answers, and putting texts into a calculator and reading them. */
final class Check {
    interface Call {
        Object run();
    }

    private static int wrong = 0;
    private static int made = 0;

    private Check() {
    }

    static void same(String what, Object got, Object due) {
        made++;
        if (!due.equals(got)) {
            wrong++;
            System.out.println(what + " answered " + got + ", due is " + due);
        }
    }

    /** The class has to be the very one that is named: the machine's exceptions are its subclasses. */
    static void fails(String what, Class<? extends RuntimeException> due, Call call) {
        made++;
        Object got;
        try {
            got = call.run();
        } catch (RuntimeException e) {
            got = e.getClass();
        }
        if (got != due) {
            wrong++;
            System.out.println(what + " answered " + got + ", due is " + due);
        }
    }

    static void noSuchNumber(String what, Call call) {
        fails(what, IndexOutOfBoundsException.class, call);
    }

    static void end() {
        System.out.println(made + " answers, " + wrong + " wrong");
        if (wrong != 0 || made == 0) {
            System.exit(1);
        }
    }

    /** Puts a text into the empty input buffer. */
    static void put(FreeGroupCalculator x, String text) {
        put(x, text.getBytes(StandardCharsets.ISO_8859_1));
    }

    static void put(FreeGroupCalculator x, byte[] text) {
        for (int i = 0; i < text.length; i += 20) {
            x.append(four(text, i), four(text, i + 4), four(text, i + 8), four(text, i + 12), four(text, i + 16));
        }
        x.truncate(text.length);
    }

    static int four(byte[] text, int from) {
        int value = 0;
        for (int i = from; i < from + 4; i++) {
            value = value << 8 | (i < text.length ? text[i] & 255 : 0);
        }
        return value;
    }

    static FreeGroupCalculator loaded(String text) {
        FreeGroupCalculator x = new FreeGroupCalculator();
        put(x, text);
        x.load();
        return x;
    }

    static String word(FreeGroupCalculator x, int register) {
        StringBuilder word = new StringBuilder();
        for (int i = 0; i < x.wordLength(register); i++) {
            word.append(x.letter(register, i));
        }
        return word.toString();
    }

    static String core(FreeGroupCalculator x, int register) {
        StringBuilder word = new StringBuilder();
        for (int i = 0; i < x.coreLength(register); i++) {
            word.append(x.coreLetter(register, i));
        }
        return word.toString();
    }

    static String formatted(FreeGroupCalculator x, int length) {
        StringBuilder text = new StringBuilder();
        for (int i = 0; i < length; i++) {
            text.append(x.formattedCharacter(i));
        }
        noSuchNumber("formattedCharacter behind the text", () -> x.formattedCharacter(length));
        return text.toString();
    }
}
