import java.util.NoSuchElementException;

/** Promises 39 to 49: edits and undoing them. */
public final class EditsTest {
    private static final Class<? extends RuntimeException> STATE = IllegalStateException.class;
    private static final Class<? extends RuntimeException> ARGUMENT = IllegalArgumentException.class;

    public static void main(String[] args) {
        setRegister();
        products();
        conjugatesAndCommutators();
        powers();
        roots();
        substitutions();
        sameRegisters();
        tooLong();
        generatingWords();
        undoOfEachEdit();
        undoDepth();
        refusedEdits();
        noSuchNumbers();
        Check.end();
    }

    private static FreeGroupCalculator sample() {
        return Check.loaded("rank 3; set 0 abc; set 1 CBa; set 2 aab; set 3 b; set 4 " + "a".repeat(60) + "; set 5 "
                + "b".repeat(30) + "a; set 6 cababC;");
    }

    private static void setRegister() {
        FreeGroupCalculator x = sample();
        Check.put(x, "abBAccC");
        Check.same("reduced", x.setRegister(7), 1);
        Check.same("word", Check.word(x, 7), "c");
        Check.same("buffer is empty then", x.append(0, 0, 0, 0, 0), 20);
        Check.fails("zero bytes", ARGUMENT, () -> x.setRegister(7));
        x.truncate(0);
        Check.same("empty buffer", x.setRegister(7), 0);
        Check.same("empty word", Check.word(x, 7), "");
        for (String bad : new String[] {"abd", "D", "a b", "a1", "1", "e", "ab\n", "a\u00e1", "a;", "`", "@"}) {
            Check.put(x, bad);
            Check.fails("not a letter of the group: " + bad, ARGUMENT, () -> x.setRegister(0));
            Check.noSuchNumber("the register first", () -> x.setRegister(8));
            Check.same("buffer stays", x.append(0, 0, 0, 0, 0), bad.length() + 20);
            x.truncate(0);
        }
        Check.put(x, "a".repeat(60));
        Check.same("60 letters", x.setRegister(0), 60);
        Check.put(x, "a".repeat(61));
        Check.fails("61 letters", STATE, () -> x.setRegister(1));
        x.append(0x41424142, 0x41424142, 0x41424142, 0x41424142, 0x41424142);
        x.truncate(62);
        Check.same("buffer stays after 61 letters", x.setRegister(1), 60);
        Check.put(x, "a".repeat(61) + "d");
        Check.fails("the letter first", ARGUMENT, () -> x.setRegister(1));
        x.truncate(0);
        Check.put(x, "ab".repeat(150) + "BA".repeat(149));
        Check.same("600 bytes", x.setRegister(2), 2);
    }

    private static void products() {
        FreeGroupCalculator x = sample();
        Check.same("product", x.setProduct(7, 0, 1), 2);
        Check.same("word", Check.word(x, 7), "aa");
        Check.same("the other way", x.setProduct(7, 1, 0), 6);
        Check.same("word", Check.word(x, 7), "CBaabc");
        Check.same("inverse", x.setInverse(7, 0), 3);
        Check.same("word", Check.word(x, 7), "CBA");
        Check.same("empty", x.setProduct(7, 7, 0), 0);
        Check.same("inverse of the empty word", x.setInverse(6, 7), 0);
    }

    private static void conjugatesAndCommutators() {
        FreeGroupCalculator x = sample();
        Check.same("conjugate", x.setConjugate(7, 2, 3), 5);
        Check.same("word", Check.word(x, 7), "Baabb");
        Check.same("conjugate that is reduced", x.setConjugate(7, 7, 1), 11);
        Check.same("word", Check.word(x, 7), "AbcBaabbCBa");
        Check.same("by itself", x.setConjugate(7, 2, 2), 3);
        Check.same("word", Check.word(x, 7), "aab");
        Check.same("commutator", x.setCommutator(7, 0, 3), 8);
        Check.same("word", Check.word(x, 7), "CBABabcb");
        Check.same("of commuting words", x.setCommutator(7, 4, 4), 0);
    }

    private static void powers() {
        FreeGroupCalculator x = sample();
        Check.same("square", x.setPower(7, 0, 2), 6);
        Check.same("word", Check.word(x, 7), "abcabc");
        Check.same("inverse", x.setPower(7, 0, -1), 3);
        Check.same("word", Check.word(x, 7), "CBA");
        Check.same("negative", x.setPower(7, 0, -2), 6);
        Check.same("word", Check.word(x, 7), "CBACBA");
        Check.same("exponent 0", x.setPower(7, 4, 0), 0);
        Check.same("exponent 1", x.setPower(7, 4, 1), 60);
        Check.same("exponent 20", x.setPower(7, 0, 20), 60);
        Check.same("exponent -20", x.setPower(7, 3, -20), 20);
        Check.same("word", Check.word(x, 7), "B".repeat(20));
        Check.same("conjugate", x.setPower(7, 6, 3), 14);
        Check.same("word", Check.word(x, 7), "c" + "ab".repeat(6) + "C");
        for (int bad : new int[] {-21, 21, Integer.MIN_VALUE, Integer.MAX_VALUE}) {
            Check.fails("no such exponent", ARGUMENT, () -> x.setPower(7, 4, bad));
            Check.noSuchNumber("the register first", () -> x.setPower(8, 4, bad));
            Check.noSuchNumber("the source first", () -> x.setPower(7, 8, bad));
        }
        Check.fails("too long", STATE, () -> x.setPower(7, 4, 2));
        Check.fails("too long", STATE, () -> x.setPower(7, 4, -20));
        FreeGroupCalculator y = Check.loaded("rank 1;");
        Check.same("power of the empty word", y.setPower(0, 1, 20), 0);
    }

    private static void roots() {
        FreeGroupCalculator x = sample();
        Check.same("root", x.setRoot(7, 6), 4);
        Check.same("word", Check.word(x, 7), "cabC");
        Check.same("of a power", x.setRoot(7, 4), 1);
        Check.same("word", Check.word(x, 7), "a");
        Check.same("no power", x.setRoot(7, 2), 3);
        Check.same("word", Check.word(x, 7), "aab");
        x.setPower(7, 3, 0);
        Check.fails("empty word", NoSuchElementException.class, () -> x.setRoot(0, 7));
        Check.noSuchNumber("the register first", () -> x.setRoot(8, 7));
    }

    private static void substitutions() {
        FreeGroupCalculator x = sample();
        Check.same("inverse", x.substitute(7, 1, 1, 2), 3);
        Check.same("word", Check.word(x, 7), "CBA");
        Check.same("inverse and generator", x.substitute(7, 6, 2, 0), 10);
        Check.same("word", Check.word(x, 7), "abcababCBA");
        Check.same("by the empty word", x.setPower(7, 0, 0), 0);
        Check.same("deletes a generator", x.substitute(6, 6, 0, 7), 4);
        Check.same("word", Check.word(x, 6), "cbbC");
        Check.same("generator that does not occur", x.substitute(7, 2, 2, 0), 3);
        Check.same("60 times 60 letters", x.substitute(7, 4, 0, 3), 60);
        Check.fails("3600 letters", STATE, () -> x.substitute(7, 4, 0, 4));
        Check.noSuchNumber("a generator that the group lacks", () -> x.substitute(7, 4, 3, 4));
    }

    private static void sameRegisters() {
        FreeGroupCalculator x = sample();
        Check.same("square in place", x.setProduct(0, 0, 0), 6);
        Check.same("word", Check.word(x, 0), "abcabc");
        Check.same("inverse in place", x.setInverse(0, 0), 6);
        Check.same("word", Check.word(x, 0), "CBACBA");
        Check.same("root in place", x.setRoot(0, 0), 3);
        Check.same("power in place", x.setPower(0, 0, -2), 6);
        Check.same("word", Check.word(x, 0), "abcabc");
        Check.same("substitution in place", x.substitute(2, 2, 0, 2), 7);
        Check.same("word", Check.word(x, 2), "aabaabb");
        Check.same("conjugate in place", x.setConjugate(3, 3, 1), 7);
        Check.same("word", Check.word(x, 3), "AbcbCBa");
        Check.same("commutator in place", x.setCommutator(1, 1, 1), 0);
    }

    private static void tooLong() {
        FreeGroupCalculator x = Check.loaded("rank 2; set 0 " + "a".repeat(60) + "; set 1 b; set 2 " + "a".repeat(30)
                + "; set 3 " + "b".repeat(30) + "; set 4 " + "b".repeat(15) + "; set 5 " + "a".repeat(15) + ";");
        Check.fails("product of 61", STATE, () -> x.setProduct(7, 0, 1));
        Check.same("product of 60", x.setProduct(7, 2, 3), 60);
        Check.fails("conjugate of 62", STATE, () -> x.setConjugate(7, 0, 1));
        Check.same("conjugate of 60", x.setConjugate(7, 2, 4), 60);
        Check.same("commutator of 60", x.setCommutator(7, 5, 4), 60);
        Check.fails("commutator of 122", STATE, () -> x.setCommutator(7, 0, 1));
        Check.noSuchNumber("the register first", () -> x.setProduct(8, 0, 1));
        Check.same("nothing changed", x.wordLength(7), 60);
        Check.same("only three edits", x.undo(), 2);
    }

    private static void generatingWords() {
        FreeGroupCalculator x = sample();
        for (int i = 0; i < 6; i++) {
            Check.same("add", x.addGeneratingWord(1, i % 4), i + 1);
        }
        Check.fails("seventh", STATE, () -> x.addGeneratingWord(1, 0));
        Check.noSuchNumber("the register first", () -> x.addGeneratingWord(1, 8));
        Check.same("the other subgroup", x.addGeneratingWord(0, 2), 1);
        Check.same("a copy of the word", x.setInverse(2, 3), 1);
        Check.same("stays", x.edgeCount(0), 3);
        Check.noSuchNumber("no such word", () -> x.removeGeneratingWord(0, 1));
        Check.noSuchNumber("no such word", () -> x.removeGeneratingWord(1, 6));
        Check.same("remove", x.removeGeneratingWord(1, 5), 5);
        Check.noSuchNumber("removed word", () -> x.removeGeneratingWord(1, 5));
        FreeGroupCalculator y = Check.loaded("rank 2; set 0 a; set 1 bb; set 2 aba; join 0 0; join 0 1; join 0 2;");
        Check.same("remove the first", y.removeGeneratingWord(0, 0), 2);
        Check.same("the others stay", y.contains(0, 1) && y.contains(0, 2) && !y.contains(0, 0), true);
        Check.same("numbers decrease", y.removeGeneratingWord(0, 0), 1);
        Check.same("the last one stays", y.contains(0, 2) && !y.contains(0, 1), true);
        Check.same("remove the last", y.removeGeneratingWord(0, 0), 0);
        Check.same("trivial", y.vertexCount(0), 1);
        Check.noSuchNumber("no word", () -> y.removeGeneratingWord(0, 0));
        Check.same("undo brings it back", y.undo(), 2);
        Check.same("in the graph too", y.contains(0, 2), true);
    }

    private static void undoOfEachEdit() {
        FreeGroupCalculator x = sample();
        String before = Check.word(x, 0);
        for (int edit = 0; edit < 8; edit++) {
            edit(x, edit);
            Check.same("changed by edit " + edit, Check.word(x, 0).equals(before), false);
            Check.same("undo of edit " + edit, x.undo(), 0);
            Check.same("undone edit " + edit, Check.word(x, 0), before);
        }
        x.addGeneratingWord(0, 0);
        x.save();
        Check.put(x, "ab");
        x.formatWord(1);
        x.removeGeneratingWord(0, 0);
        Check.same("removed", x.edgeCount(0), 0);
        Check.same("undo", x.undo(), 1);
        Check.same("word is back", x.generatingWordCount(0), 1);
        Check.same("graph is back", x.edgeCount(0), 3);
        Check.same("undo", x.undo(), 0);
        Check.same("added word is gone", x.edgeCount(0), 0);
        Check.fails("nothing left", STATE, x::undo);
        Check.same("the buffer stays", x.append(0, 0, 0, 0, 0), 22);
        Check.same("the formatted text stays", Check.formatted(x, 7), "c-1b-1a");
        Check.same("the parse error stays", x.errorKind(), 0);
        x.restore();
        Check.same("the saved state stays", x.generatingWordCount(0), 1);
    }

    private static void edit(FreeGroupCalculator x, int edit) {
        switch (edit) {
            case 0 -> x.setRegister(0);
            case 1 -> x.setProduct(0, 0, 1);
            case 2 -> x.setInverse(0, 0);
            case 3 -> x.setConjugate(0, 0, 3);
            case 4 -> x.setCommutator(0, 0, 3);
            case 5 -> x.setPower(0, 0, 2);
            case 6 -> x.setRoot(0, 4);
            default -> x.substitute(0, 0, 2, 3);
        }
    }

    private static void undoDepth() {
        FreeGroupCalculator x = Check.loaded("rank 1; set 1 a;");
        for (int i = 1; i <= 12; i++) {
            x.setProduct(0, 0, 1);
        }
        for (int i = 7; i >= 0; i--) {
            Check.same("undo", x.undo(), i);
            Check.same("word", x.wordLength(0), 4 + i);
        }
        Check.fails("only eight are kept", STATE, x::undo);
        Check.same("nothing changed", x.wordLength(0), 4);
        x.setProduct(0, 0, 1);
        x.setProduct(0, 0, 1);
        Check.same("undo the latest", x.undo(), 1);
        x.setInverse(0, 0);
        Check.same("undo the edit after an undo", x.undo(), 1);
        Check.same("word", Check.word(x, 0), "aaaaa");
        Check.same("then the one before", x.undo(), 0);
        Check.same("word", Check.word(x, 0), "aaaa");
        x.setProduct(0, 0, 7);
        Check.same("an edit that changes nothing can be undone", x.undo(), 0);
    }

    private static void refusedEdits() {
        FreeGroupCalculator x = sample();
        Check.fails("too long", STATE, () -> x.setPower(0, 4, 3));
        Check.fails("no exponent", ARGUMENT, () -> x.setPower(0, 4, 30));
        Check.noSuchNumber("no register", () -> x.setProduct(0, 8, 8));
        Check.fails("no root", NoSuchElementException.class, () -> x.setRoot(0, 7));
        Check.noSuchNumber("no word", () -> x.removeGeneratingWord(0, 0));
        Check.fails("nothing saved", STATE, x::restore);
        Check.same("word", Check.word(x, 0), "abc");
        Check.fails("none of them can be undone", STATE, x::undo);
    }

    private static void noSuchNumbers() {
        FreeGroupCalculator x = sample();
        for (int bad : new int[] {-1, 8, Integer.MIN_VALUE, Integer.MAX_VALUE}) {
            Check.noSuchNumber("setRegister", () -> x.setRegister(bad));
            Check.noSuchNumber("setProduct", () -> x.setProduct(bad, 0, 0));
            Check.noSuchNumber("setProduct", () -> x.setProduct(0, bad, 0));
            Check.noSuchNumber("setProduct", () -> x.setProduct(0, 0, bad));
            Check.noSuchNumber("setInverse", () -> x.setInverse(bad, 0));
            Check.noSuchNumber("setInverse", () -> x.setInverse(0, bad));
            Check.noSuchNumber("setConjugate", () -> x.setConjugate(bad, 0, 0));
            Check.noSuchNumber("setConjugate", () -> x.setConjugate(0, bad, 0));
            Check.noSuchNumber("setConjugate", () -> x.setConjugate(0, 0, bad));
            Check.noSuchNumber("setCommutator", () -> x.setCommutator(bad, 0, 0));
            Check.noSuchNumber("setCommutator", () -> x.setCommutator(0, bad, 0));
            Check.noSuchNumber("setCommutator", () -> x.setCommutator(0, 0, bad));
            Check.noSuchNumber("setPower", () -> x.setPower(bad, 0, 1));
            Check.noSuchNumber("setPower", () -> x.setPower(0, bad, 1));
            Check.noSuchNumber("setRoot", () -> x.setRoot(bad, 0));
            Check.noSuchNumber("setRoot", () -> x.setRoot(0, bad));
            Check.noSuchNumber("substitute", () -> x.substitute(bad, 0, 0, 0));
            Check.noSuchNumber("substitute", () -> x.substitute(0, bad, 0, 0));
            Check.noSuchNumber("substitute", () -> x.substitute(0, 0, bad, 0));
            Check.noSuchNumber("substitute", () -> x.substitute(0, 0, 0, bad));
            Check.noSuchNumber("addGeneratingWord", () -> x.addGeneratingWord(bad, 0));
            Check.noSuchNumber("addGeneratingWord", () -> x.addGeneratingWord(0, bad));
            Check.noSuchNumber("removeGeneratingWord", () -> x.removeGeneratingWord(bad, 0));
            Check.noSuchNumber("removeGeneratingWord", () -> x.removeGeneratingWord(0, bad));
        }
        Check.noSuchNumber("addGeneratingWord", () -> x.addGeneratingWord(2, 0));
        Check.noSuchNumber("removeGeneratingWord", () -> x.removeGeneratingWord(2, 0));
    }
}
