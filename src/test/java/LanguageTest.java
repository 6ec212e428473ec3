import java.io.IOException;
import java.nio.file.Files;
import java.nio.file.Path;
import java.util.Set;
import java.util.TreeSet;
import java.util.regex.MatchResult;
import java.util.regex.Matcher;
import java.util.regex.Pattern;

/** Of the rules of ../shared/LANGUAGE.md those that can be seen in the program's text, without its comments. */
public final class LanguageTest {
    private static final Path PROGRAM = Path.of("src/main/java/FreeGroupCalculator.java");
    private static final Pattern METHOD = Pattern.compile(
            "(?m)^( {4}| {8})(?!else|for|if|while|private static final class)\\w[^;{}=]*\\(([^)]*)\\)[^;{}=]*\\{\\n");

    public static void main(String[] args) throws IOException {
        String text = withoutComments(Files.readString(PROGRAM));
        String code = text.replaceAll("\"[^\"\\n]*\"", "\"\"").replaceAll("'[^'\\n]+'", "' '");
        library(code);
        exceptions(code);
        notAllowed(code);
        staticFields(code);
        methods(code);
        Check.same("signs above 127", text.chars().filter(sign -> sign > 127).count(), 0L);
        Check.end();
    }

    private static String withoutComments(String text) {
        return text.replaceAll("(?s)/\\*.*?\\*/", "").replaceAll("//[^\\n]*", "");
    }

    private static Set<String> found(String pattern, String code) {
        Set<String> found = new TreeSet<>();
        Pattern.compile(pattern).matcher(code).results().map(MatchResult::group).forEach(found::add);
        return found;
    }

    private static void among(String what, Set<String> found, String... allowed) {
        Set<String> rest = new TreeSet<>(found);
        rest.removeAll(Set.of(allowed));
        Check.same(what, rest, Set.of());
    }

    // Rule 4.
    private static void library(String code) {
        among("imports", found("(?m)^import [^;]*", code), "import java.util.Arrays",
                "import java.util.NoSuchElementException", "import java.util.ArrayList", "import java.util.List");
        among("library classes", found("\\b(System|Arrays|Math|Integer|Long)\\.\\w+", code), "System.arraycopy",
                "Arrays.fill", "Arrays.copyOf", "Arrays.copyOfRange", "Math.min", "Math.max", "Math.abs");
        among("other names with a point", found("\\bjava\\.[\\w.]+", code), "java.util.Arrays",
                "java.util.NoSuchElementException", "java.util.ArrayList", "java.util.List");
    }

    // Rule 6.
    private static void exceptions(String code) {
        among("what is thrown", found("\\bthrow\\b[^;]*", code), "throw new IllegalStateException(\"\")",
                "throw new IllegalArgumentException(\"\")", "throw new IndexOutOfBoundsException(\"\")",
                "throw new NoSuchElementException(\"\")");
        among("catching", found("\\b(try|catch|finally)\\b", code));
    }

    // Rules 2, 4, 6, 9, 10 and 13.
    private static void notAllowed(String code) {
        among("signs", found("->|::|@\\w+", code));
        among("words", found("\\b(synchronized|assert|volatile|transient|native|strictfp|Thread|Random|Object|hashCode"
                + "|toString|getClass|float|double)\\b", code));
        among("joined texts", found("\"\" *\\+|\\+ *\"\"", code));
        among("endless loops", found("for \\(;|; *;|while \\(true\\)", code));
        among("rows of more than two dimensions", found("\\[\\]\\[\\]\\[\\]", code));
    }

    // Rule 5: what is static is a final field, a method or a class.
    private static void staticFields(String code) {
        among("static fields", found("(?m)^.*\\bstatic (?!final )[^(\\n]*(=|;).*$", code));
        among("static blocks", found("\\bstatic *\\{", code));
    }

    // Rule 11.
    private static void methods(String code) {
        Matcher matcher = METHOD.matcher(code);
        int methods = 0;
        while (matcher.find()) {
            methods++;
            String head = matcher.group().strip();
            int end = code.indexOf("\n" + matcher.group(1) + "}", matcher.end() - 1);
            long lines = code.substring(matcher.start(), end).lines().count();
            Check.same("at most sixty lines: " + head, lines <= 60, true);
            Check.same("at most seven parameters: " + head, matcher.group(2).split(",").length <= 7, true);
        }
        Check.same("the methods are found", methods > 100, true);
        Check.same("at most some twelve classes", found("\\bclass \\w+", code).size() <= 12, true);
    }
}
