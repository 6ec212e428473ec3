import java.io.IOException;
import java.nio.file.Files;
import java.nio.file.Path;
import java.util.regex.Matcher;
import java.util.regex.Pattern;

/**
 * Writes the program of the examples in README.md, whose path is the argument: each call with a comment that begins with
 * an answer is compared with it. Such an answer is a number, true, false, a character or "throws" and an exception. The
 * formatted text is compared with the one that a comment quotes behind "the text".
 */
public final class ReadmeCode {
    private static final Pattern ANSWERED = Pattern.compile(
            "(?:int (\\w+) = )?(.*);\\s*// (?:(-?\\d+|true|false)|'(.)'|throws (\\w+))(?:: the text \"([^\"]*)\"|[: ].*)?");

    private ReadmeCode() {
    }

    public static void main(String[] args) throws IOException {
        StringBuilder methods = new StringBuilder();
        StringBuilder examples = new StringBuilder();
        StringBuilder block = null;
        for (String line : Files.readAllLines(Path.of(args[0]))) {
            if (line.equals("```java")) {
                block = new StringBuilder();
            } else if (line.equals("```") && block != null) {
                boolean isMethod = block.toString().startsWith("static ");
                (isMethod ? methods : examples).append(isMethod ? block : "{\n" + block + "}\n");
                block = null;
            } else if (block != null) {
                block.append(compared(line)).append('\n');
            }
        }
        System.out.println("public final class ReadmeExamples {\n" + methods
                + "public static void main(String[] args) {\n" + examples + "Check.end();\n}\n}");
    }

    private static String compared(String line) {
        Matcher matcher = ANSWERED.matcher(line);
        if (!matcher.matches()) {
            return line;
        }
        String call = matcher.group(2);
        if (matcher.group(5) != null) {
            return "Check.fails(\"" + call + "\", " + matcher.group(5) + ".class, () -> " + call + ");";
        }
        String due = matcher.group(3) != null ? matcher.group(3) : matcher.group(4);
        String variable = matcher.group(1);
        String declared = variable == null ? "" : "int " + variable + " = " + call + "; ";
        String text = matcher.group(6) == null ? "" : " Check.same(\"the text of " + call + "\", Check.formatted(x, " + due
                + "), \"" + matcher.group(6) + "\");";
        return declared + "Check.same(\"" + call + "\", String.valueOf(" + (variable == null ? call : variable) + "), \""
                + due + "\");" + text;
    }
}
