/** The boundary cases of promises 52 to 55: runs of each length, basis words, and characters out of range. */
public final class FormattedTextBoundaryTest {
    public static void main(String[] args) {
        runsOfEachLength();
        longestTexts();
        numbersOfCharacters();
        replacedTexts();
        emptyTexts();
        basisWordsInTheirOrder();
        treeEdgesAgainstTheirDirection();
        longestBasisWords();
        representativesOfACircle();
        Check.end();
    }

    private static void written(FreeGroupCalculator x, int length, String due) {
        Check.same("length of " + due, length, due.length());
        Check.same("text", Check.formatted(x, due.length()), due);
        Check.noSuchNumber("the character before the text", () -> x.formattedCharacter(-1));
    }

    private static void runsOfEachLength() {
        for (int length = 1; length <= 60; length++) {
            FreeGroupCalculator x = Check.loaded("rank 4;set 0 " + "a".repeat(length) + ";set 1 " + "D".repeat(length)
                    + ";set 2 " + "b".repeat(length) + " " + "C".repeat(60 - length) + (length == 60 ? "1" : "") + ";");
            written(x, x.formatWord(0), length == 1 ? "a" : "a" + length);
            written(x, x.formatWord(1), "d-" + length);
            String rest = length == 60 ? "" : "c-" + (60 - length);
            written(x, x.formatWord(2), (length == 1 ? "b" : "b" + length) + rest);
        }
    }

    private static void longestTexts() {
        FreeGroupCalculator x = Check.loaded("rank 4;set 0 " + "AB".repeat(30) + ";set 1 " + "ABCD".repeat(15)
                + ";set 2 " + "abcd".repeat(15) + ";set 3 " + "AAB".repeat(20) + ";");
        written(x, x.formatWord(0), "a-1b-1".repeat(30));
        Check.noSuchNumber("character 180", () -> x.formattedCharacter(180));
        written(x, x.formatWord(1), "a-1b-1c-1d-1".repeat(15));
        written(x, x.formatWord(2), "abcd".repeat(15));
    }

    private static void numbersOfCharacters() {
        FreeGroupCalculator x = Check.loaded("rank 2;set 0 aaB;");
        x.formatWord(0);
        Check.same("first", x.formattedCharacter(0), 'a');
        Check.same("last", x.formattedCharacter(4), '1');
        for (int bad : new int[] {5, 6, 180, 599, -1, Integer.MAX_VALUE, Integer.MIN_VALUE}) {
            Check.noSuchNumber("character " + bad, () -> x.formattedCharacter(bad));
        }
    }

    private static void replacedTexts() {
        FreeGroupCalculator x = Check.loaded("rank 2;set 0 " + "AB".repeat(30) + ";set 1 ab;join 0 1;");
        written(x, x.formatWord(0), "a-1b-1".repeat(30));
        written(x, x.formatWord(1), "ab");
        written(x, x.formatBasisWord(0, 0), "ab");
        written(x, x.formatWord(7), "1");
        written(x, x.formatRepresentative(0, 1), "a");
        written(x, x.formatRepresentative(0, 0), "");
        written(x, x.formatWord(0), "a-1b-1".repeat(30));
    }

    private static void emptyTexts() {
        FreeGroupCalculator x = new FreeGroupCalculator();
        for (int index : new int[] {0, 1, -1}) {
            Check.noSuchNumber("a new object has no formatted text", () -> x.formattedCharacter(index));
        }
        written(x, x.formatRepresentative(1, 0), "");
        written(x, x.formatWord(0), "1");
        Check.noSuchNumber("no basis word", () -> x.formatBasisWord(0, 0));
        written(x, 1, "1");
    }

    private static void basisWordsInTheirOrder() {
        FreeGroupCalculator x = Check.loaded("rank 2;set 0 aa;set 1 bb;set 2 abAB;set 3 ab;set 4 ba;join 0 0;join 0 1;"
                + "join 0 2;join 1 0;join 1 1;join 1 3;join 1 4;");
        // Vertices 0, 1 (a), 2 (b), 3 (ab); what is left is ordered by its start vertex, then by its label.
        String[] due = {"aa", "baBA", "bb"};
        Check.same("rank", x.subgroupRank(0), due.length);
        for (int i = 0; i < due.length; i++) {
            written(x, x.formatBasisWord(0, i), due[i]);
        }
        for (int bad : new int[] {3, 4, -1, Integer.MAX_VALUE, Integer.MIN_VALUE}) {
            Check.noSuchNumber("basis word " + bad, () -> x.formatBasisWord(0, bad));
        }
        String[] other = {"bA", "aa", "ab"};
        for (int i = 0; i < other.length; i++) {
            written(x, x.formatBasisWord(1, i), other[i]);
        }
    }

    private static void treeEdgesAgainstTheirDirection() {
        FreeGroupCalculator x = Check.loaded("rank 2;set 0 Ab;set 1 B;set 2 A;set 3 BBa;set 4 b;join 0 0;join 1 3;");
        written(x, x.formatRepresentative(0, 1), "A");
        written(x, x.formatBasisWord(0, 0), "Ab");
        Check.noSuchNumber("only one", () -> x.formatBasisWord(0, 1));
        written(x, x.formatRepresentative(1, 1), "A");
        written(x, x.formatRepresentative(1, 2), "B");
        written(x, x.formatBasisWord(1, 0), "Abb");
        x.addGeneratingWord(0, 1);
        written(x, x.formatBasisWord(0, 0), "a");
        written(x, x.formatBasisWord(0, 1), "b");
    }

    private static void longestBasisWords() {
        FreeGroupCalculator x = Check.loaded("rank 2;set 0 " + "a".repeat(60) + ";set 1 " + "ab".repeat(30)
                + ";set 2 " + "b".repeat(29) + "aa" + "B".repeat(29) + ";join 0 0;join 1 1;");
        written(x, x.formatBasisWord(0, 0), "a".repeat(60));
        written(x, x.formatRepresentative(0, 59), "a".repeat(30));
        written(x, x.formatBasisWord(1, 0), "ab".repeat(30));
        x.removeGeneratingWord(0, 0);
        x.addGeneratingWord(0, 2);
        written(x, x.formatBasisWord(0, 0), "b".repeat(29) + "aa" + "B".repeat(29));
        written(x, x.formatRepresentative(0, 30), "b".repeat(29) + "a");
    }

    private static void representativesOfACircle() {
        FreeGroupCalculator x = Check.loaded("rank 1;set 0 " + "a".repeat(59) + ";join 0 0;");
        for (int vertex = 0; vertex < 59; vertex += 7) {
            int size = (vertex + 1) / 2;
            written(x, x.formatRepresentative(0, vertex), (vertex % 2 == 1 ? "a" : "A").repeat(size));
            Check.same("its length", x.representativeLength(0, vertex), size);
        }
        Check.noSuchNumber("vertex 59", () -> x.formatRepresentative(0, 59));
    }
}
