/** Promises 52 to 55: formatted words, basis words and representatives. */
public final class FormattedTextTest {
    public static void main(String[] args) {
        words();
        basisWords();
        representatives();
        whatStays();
        noSuchNumbers();
        Check.end();
    }

    private static void words() {
        FreeGroupCalculator x = Check.loaded("rank 4; set 0 aaabAACD; set 1 a; set 2 A; set 3 " + "a".repeat(60)
                + "; set 4 " + "AB".repeat(30) + "; set 5 " + "D".repeat(10) + "ccccccccc; set 6 abAB;");
        word(x, 0, "a3ba-2c-1d-1");
        word(x, 1, "a");
        word(x, 2, "a-1");
        word(x, 3, "a60");
        word(x, 4, "a-1b-1".repeat(30));
        word(x, 5, "d-10c9");
        word(x, 6, "aba-1b-1");
        word(x, 7, "1");
    }

    private static void word(FreeGroupCalculator x, int register, String due) {
        Check.same("length of " + due, x.formatWord(register), due.length());
        Check.same("format", Check.formatted(x, due.length()), due);
    }

    private static void basisWords() {
        FreeGroupCalculator x = Check.loaded("rank 2; set 0 aa; set 1 ab; set 2 aB; join 0 0; join 0 1; join 0 2;");
        basis(x, 0, new String[] {"bA", "aa", "ab"});
        FreeGroupCalculator y = Check.loaded("rank 1; set 0 aaaaa; join 1 0;");
        basis(y, 1, new String[] {"aaaaa"});
        Check.noSuchNumber("no basis", () -> y.formatBasisWord(0, 0));
        FreeGroupCalculator z = Check.loaded("rank 2; set 0 Baab; set 1 bab; set 2 BaB; join 0 0; join 0 1; join 0 2;");
        for (int i = 0; i < z.subgroupRank(0); i++) {
            int length = z.formatBasisWord(0, i);
            Check.put(z, Check.formatted(z, length));
            Check.same("a basis word is reduced", z.setRegister(7), length);
            Check.same("a basis word is an element", z.contains(0, 7), true);
        }
        FreeGroupCalculator w = Check.loaded("rank 1; set 0 " + "A".repeat(60) + "; join 0 0;");
        basis(w, 0, new String[] {"a".repeat(60)});
    }

    private static void basis(FreeGroupCalculator x, int subgroup, String[] due) {
        for (int i = 0; i < due.length; i++) {
            Check.same("length of " + due[i], x.formatBasisWord(subgroup, i), due[i].length());
            Check.same("basis word", Check.formatted(x, due[i].length()), due[i]);
        }
        Check.noSuchNumber("basis word behind", () -> x.formatBasisWord(subgroup, due.length));
        Check.noSuchNumber("basis word before", () -> x.formatBasisWord(subgroup, -1));
    }

    private static void representatives() {
        FreeGroupCalculator x = Check.loaded("rank 2; set 0 aBaB; set 1 bb; join 0 0; join 0 1;");
        String[] due = {"", "a", "b", "aB"};
        for (int i = 0; i < x.vertexCount(0); i++) {
            int length = x.formatRepresentative(0, i);
            Check.same("length", length, x.representativeLength(0, i));
            String text = Check.formatted(x, length);
            Check.put(x, text);
            x.setRegister(7);
            Check.same("leads to its vertex", x.reachedVertex(0, 7), i);
            Check.same("representative", text, due[i]);
        }
        FreeGroupCalculator y = Check.loaded("rank 1; set 0 aaaaa; join 1 0;");
        String[] circle = {"", "a", "A", "aa", "AA"};
        for (int i = 0; i < circle.length; i++) {
            Check.same("length", y.formatRepresentative(1, i), circle[i].length());
            Check.same("representative", Check.formatted(y, circle[i].length()), circle[i]);
        }
        Check.noSuchNumber("vertex behind", () -> y.formatRepresentative(1, 5));
        Check.same("base vertex of the trivial subgroup", y.formatRepresentative(0, 0), 0);
    }

    private static void whatStays() {
        FreeGroupCalculator x = Check.loaded("rank 2; set 0 aab; join 0 0;");
        x.formatWord(0);
        Check.noSuchNumber("refused", () -> x.formatWord(8));
        Check.noSuchNumber("refused", () -> x.formatBasisWord(0, 1));
        Check.noSuchNumber("refused", () -> x.formatRepresentative(0, 3));
        x.setInverse(0, 0);
        x.undo();
        x.vertexCount(0);
        Check.same("stays", Check.formatted(x, 3), "a2b");
        Check.fails("formatting is no edit", IllegalStateException.class, x::undo);
    }

    private static void noSuchNumbers() {
        FreeGroupCalculator x = Check.loaded("rank 2; set 0 aab; join 0 0;");
        x.formatWord(0);
        for (int bad : new int[] {-1, 8, Integer.MIN_VALUE, Integer.MAX_VALUE}) {
            Check.noSuchNumber("formatWord", () -> x.formatWord(bad));
            Check.noSuchNumber("formatBasisWord", () -> x.formatBasisWord(bad, 0));
            Check.noSuchNumber("formatBasisWord", () -> x.formatBasisWord(0, bad));
            Check.noSuchNumber("formatRepresentative", () -> x.formatRepresentative(bad, 0));
            Check.noSuchNumber("formatRepresentative", () -> x.formatRepresentative(0, bad));
            Check.noSuchNumber("formattedCharacter", () -> x.formattedCharacter(bad));
        }
        Check.noSuchNumber("formatBasisWord", () -> x.formatBasisWord(2, 0));
        Check.noSuchNumber("formatRepresentative", () -> x.formatRepresentative(2, 0));
    }
}
