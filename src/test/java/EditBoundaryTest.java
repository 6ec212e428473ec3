import java.util.NoSuchElementException;

/** The boundary cases of promises 39 to 51: results of 60 and of more letters, and what is kept for undoing. */
public final class EditBoundaryTest {
    private static final Class<? extends RuntimeException> STATE = IllegalStateException.class;
    private static final Class<? extends RuntimeException> ARGUMENT = IllegalArgumentException.class;
    private static final int EDITS = 11;

    public static void main(String[] args) {
        registersFromTheBuffer();
        everyByteOfTheBuffer();
        productsOfEachLength();
        conjugatesAndCommutators();
        everyExponent();
        powersNearTheLimit();
        substitutionsNearTheLimit();
        rootsOfConjugates();
        sixGeneratingWords();
        removalOfEachWord();
        eightEditsAreKept();
        editsAfterUndoing();
        everyEditCanBeUndone();
        whatIsNoEdit();
        editsThatChangeNothing();
        savedStates();
        lettersInAllRegisters();
        Check.end();
    }

    private static FreeGroupCalculator loaded(String... words) {
        StringBuilder text = new StringBuilder("rank 3;");
        for (int i = 0; i < words.length; i++) {
            text.append("set ").append(i).append(' ').append(words[i].isEmpty() ? "1" : words[i]).append(';');
        }
        return Check.loaded(text.toString());
    }

    // ---- results of 60 letters and more

    private static void registersFromTheBuffer() {
        for (int length = 0; length <= 600; length += length < 70 ? 1 : 53) {
            FreeGroupCalculator x = new FreeGroupCalculator();
            Check.put(x, "b".repeat(length));
            if (length <= 60) {
                Check.same("register of " + length, x.setRegister(7), length);
                Check.same("its letters", Check.word(x, 7), "b".repeat(length));
                Check.same("the buffer is empty afterwards", x.append(0, 0, 0, 0, 0), 20);
            } else {
                Check.fails("register of " + length, STATE, () -> x.setRegister(7));
                Check.same("the register stays", x.wordLength(7), 0);
                x.truncate(length);
                x.truncate(60);
                Check.same("the buffer stays", x.setRegister(7), 60);
            }
        }
        for (int letters = 0; letters <= 60; letters += 10) {
            FreeGroupCalculator x = new FreeGroupCalculator();
            int deleted = (600 - letters) / 2;
            Check.put(x, "a".repeat(deleted) + "A".repeat(deleted) + "b".repeat(letters));
            Check.same("600 bytes", x.setRegister(0), letters);
        }
        FreeGroupCalculator y = new FreeGroupCalculator();
        Check.put(y, "a".repeat(330) + "A".repeat(270));
        Check.same("600 bytes, 60 letters", y.setRegister(0), 60);
        Check.put(y, "a".repeat(330) + "A".repeat(269));
        Check.fails("599 bytes, 61 letters", STATE, () -> y.setRegister(0));
    }

    private static void everyByteOfTheBuffer() {
        for (int rank = 1; rank <= 4; rank++) {
            String letters = "aAbBcCdD".substring(0, 2 * rank);
            for (char c = 0; c < 256; c++) {
                FreeGroupCalculator x = Check.loaded("rank " + rank + ";");
                Check.put(x, "a" + c);
                if (letters.indexOf(c) >= 0) {
                    Check.same("byte " + (int) c, x.setRegister(0), c == 'A' ? 0 : 2);
                } else {
                    Check.fails("byte " + (int) c, ARGUMENT, () -> x.setRegister(0));
                    x.truncate(1);
                    Check.same("without it", x.setRegister(0), 1);
                }
            }
        }
    }

    private static void productsOfEachLength() {
        for (int right = 0; right <= 60; right += 4) {
            FreeGroupCalculator x = loaded("a".repeat(60 - right), "b".repeat(right), "c",
                    "A".repeat(60 - right));
            Check.same("product of 60", x.setProduct(7, 0, 1), 60);
            Check.fails("product of 61", STATE, () -> x.setProduct(7, 7, 2));
            Check.fails("product of 61", STATE, () -> x.setProduct(7, 2, 7));
            Check.same("the register stays", Check.word(x, 7), "a".repeat(60 - right) + "b".repeat(right));
            Check.same("empty product", x.setProduct(6, 0, 3), 0);
        }
        FreeGroupCalculator y = loaded("a".repeat(60), "A".repeat(59), "a", "A");
        Check.same("120 letters before they are reduced", y.setProduct(7, 0, 1), 1);
        Check.fails("61 letters", STATE, () -> y.setProduct(7, 0, 2));
        Check.same("59 letters", y.setProduct(7, 0, 3), 59);
        Check.same("60 letters by an empty factor", y.setProduct(7, 0, 6), 60);
        Check.same("60 letters by an empty factor", y.setProduct(7, 6, 0), 60);
        Check.fails("120 letters", STATE, () -> y.setProduct(0, 0, 0));
        Check.same("inverse of 60 letters", y.setInverse(0, 0), 60);
        Check.same("inverse of a letter", y.setInverse(0, 2), 1);
        Check.same("its letter", Check.word(y, 0), "A");
        Check.same("inverse of the empty word", y.setInverse(0, 6), 0);
    }

    private static void conjugatesAndCommutators() {
        FreeGroupCalculator x = loaded("a", "aa", "b".repeat(29), "b".repeat(30), "a".repeat(30), "a".repeat(31),
                "a".repeat(60));
        Check.same("conjugate of 59", x.setConjugate(7, 0, 2), 59);
        Check.same("conjugate of 60", x.setConjugate(7, 1, 2), 60);
        Check.fails("conjugate of 61", STATE, () -> x.setConjugate(7, 0, 3));
        Check.same("the register stays", x.wordLength(7), 60);
        Check.same("180 letters before they are reduced", x.setConjugate(7, 6, 6), 60);
        Check.same("by the empty word", x.setProduct(7, 0, 0), 2);
        FreeGroupCalculator z = loaded("a".repeat(60), "", "A".repeat(60));
        Check.same("by the empty word", z.setConjugate(3, 0, 1), 60);
        Check.same("of the empty word", z.setConjugate(3, 1, 0), 0);
        Check.same("by its inverse", z.setConjugate(3, 0, 2), 60);
        Check.same("commutator with the empty word", z.setCommutator(3, 0, 1), 0);
        Check.same("commutator of the empty word", z.setCommutator(3, 1, 0), 0);
        Check.same("240 letters before they are reduced", z.setCommutator(3, 0, 2), 0);
        FreeGroupCalculator y = loaded("a", "b".repeat(29), "b".repeat(30), "bb", "b".repeat(15) + "a".repeat(45));
        Check.same("commutator of 60", y.setCommutator(7, 0, 1), 60);
        Check.fails("commutator of 62", STATE, () -> y.setCommutator(7, 0, 2));
        Check.same("commutator of 6", y.setCommutator(7, 0, 3), 6);
        Check.same("its letters", Check.word(y, 7), "ABBabb");
        Check.fails("commutator of 122 - 2 * 30", STATE, () -> y.setCommutator(7, 4, 2));
    }

    private static void everyExponent() {
        for (int exponent = -22; exponent <= 22; exponent++) {
            int power = exponent;
            FreeGroupCalculator x = loaded("b", "bab", "", "c" + "a" + "C");
            if (power < -20 || power > 20) {
                for (int source = 0; source < 4; source++) {
                    int word = source;
                    Check.fails("exponent " + power, ARGUMENT, () -> x.setPower(7, word, power));
                }
                continue;
            }
            int size = Math.abs(power);
            Check.same("power of a letter", x.setPower(7, 0, power), size);
            Check.same("its letters", Check.word(x, 7), (power < 0 ? "B" : "b").repeat(size));
            Check.same("power of three letters", x.setPower(7, 1, power), 3 * size);
            Check.same("power of the empty word", x.setPower(7, 2, power), 0);
            Check.same("power of a conjugate", x.setPower(7, 3, power), size == 0 ? 0 : size + 2);
        }
        FreeGroupCalculator y = loaded("a");
        for (int bad : new int[] {Integer.MIN_VALUE, Integer.MAX_VALUE, Integer.MIN_VALUE + 1, 1 << 20}) {
            Check.fails("exponent " + bad, ARGUMENT, () -> y.setPower(7, 0, bad));
        }
    }

    private static void powersNearTheLimit() {
        FreeGroupCalculator x = loaded("aab", "abab", "bbb" + "a".repeat(9) + "BBB", "bbb" + "a".repeat(11) + "BBB",
                "a".repeat(60), "a".repeat(30), "a".repeat(31));
        Check.same("20 times 3", x.setPower(7, 0, 20), 60);
        Check.same("-20 times 3", x.setPower(7, 0, -20), 60);
        Check.same("15 times 4", x.setPower(7, 1, 15), 60);
        Check.fails("16 times 4", STATE, () -> x.setPower(7, 1, 16));
        Check.fails("-16 times 4", STATE, () -> x.setPower(7, 1, -16));
        Check.same("60 letters with the stem", x.setPower(7, 2, 6), 60);
        Check.same("-60 letters with the stem", x.setPower(7, 2, -6), 60);
        Check.fails("61 letters with the stem", STATE, () -> x.setPower(7, 3, 5));
        Check.fails("61 letters with the stem", STATE, () -> x.setPower(7, 3, -5));
        Check.same("50 letters with the stem", x.setPower(7, 3, 4), 50);
        Check.same("exponent 1", x.setPower(7, 4, 1), 60);
        Check.same("exponent -1", x.setPower(7, 4, -1), 60);
        Check.same("exponent 0", x.setPower(7, 4, 0), 0);
        Check.fails("120 letters", STATE, () -> x.setPower(7, 4, 2));
        Check.fails("1200 letters", STATE, () -> x.setPower(7, 4, -20));
        Check.same("twice 30", x.setPower(7, 5, 2), 60);
        Check.fails("twice 31", STATE, () -> x.setPower(7, 6, 2));
    }

    private static void substitutionsNearTheLimit() {
        FreeGroupCalculator x = loaded("aa", "b".repeat(30), "aab", "c".repeat(60), "a".repeat(60), "b",
                "aaaa" + "B".repeat(56));
        Check.same("60 letters", x.substitute(7, 0, 0, 1), 60);
        Check.fails("61 letters", STATE, () -> {
            x.setRegister(7);
            x.setProduct(7, 0, 5);
            return x.substitute(7, 7, 0, 1);
        });
        Check.same("the register stays", Check.word(x, 7), "aab");
        Check.fails("3600 letters", STATE, () -> x.substitute(7, 4, 0, 3));
        Check.same("the word itself", x.substitute(7, 4, 1, 3), 60);
        Check.same("the empty word", x.setPower(7, 0, 0), 0);
        Check.same("deleted letters", x.substitute(7, 4, 0, 7), 0);
        FreeGroupCalculator y = loaded("aaaa" + "B".repeat(56), "b".repeat(20), "b".repeat(29), "b".repeat(30), "");
        Check.same("80 letters on the way", y.substitute(7, 0, 0, 1), 24);
        Check.same("116 letters on the way", y.substitute(7, 0, 0, 2), 60);
        Check.fails("120 letters on the way, 64 at last", STATE, () -> y.substitute(7, 0, 0, 3));
        Check.same("in the empty word", y.substitute(7, 4, 0, 3), 0);
        Check.same("by the empty word", y.substitute(7, 0, 1, 4), 4);
        FreeGroupCalculator z = loaded("abAB", "ab", "ba");
        Check.same("generator and inverse", z.substitute(7, 0, 0, 1), 4);
        Check.same("its letters", Check.word(z, 7), "abAB");
        Check.same("only what the word contains before", z.substitute(7, 1, 1, 2), 3);
        Check.same("its letters", Check.word(z, 7), "aba");
    }

    private static void rootsOfConjugates() {
        FreeGroupCalculator x = loaded("", "c".repeat(20) + "ab".repeat(10) + "C".repeat(20), "b" + "a".repeat(58) + "B",
                "bbaBB");
        Check.fails("root of the empty word", NoSuchElementException.class, () -> x.setRoot(1, 0));
        Check.same("the register stays", x.wordLength(1), 60);
        Check.same("root", x.setRoot(7, 1), 42);
        Check.same("its letters", Check.word(x, 7), "c".repeat(20) + "ab" + "C".repeat(20));
        Check.same("root", x.setRoot(7, 2), 3);
        Check.same("its letters", Check.word(x, 7), "baB");
        Check.same("its own root", x.setRoot(7, 3), 5);
        Check.same("in place", x.setRoot(2, 2), 3);
        Check.same("power of the root", x.setPower(2, 2, 20), 22);
    }

    // ---- generating words

    private static void sixGeneratingWords() {
        for (int subgroup = 0; subgroup < 2; subgroup++) {
            int one = subgroup;
            FreeGroupCalculator x = loaded("a", "b", "aabb");
            for (int count = 1; count <= 6; count++) {
                Check.same("number of words", x.addGeneratingWord(one, count % 4), count);
                Check.same("counted", x.generatingWordCount(one), count);
            }
            Check.fails("a seventh word", STATE, () -> x.addGeneratingWord(one, 2));
            Check.fails("a seventh empty word", STATE, () -> x.addGeneratingWord(one, 3));
            Check.same("still six", x.generatingWordCount(one), 6);
            Check.same("none of the other", x.generatingWordCount(1 - one), 0);
            Check.same("a word of the other", x.addGeneratingWord(1 - one, 0), 1);
            Check.same("after a removal", x.removeGeneratingWord(one, 3), 5);
            Check.same("there is room", x.addGeneratingWord(one, 0), 6);
            Check.fails("for one only", STATE, () -> x.addGeneratingWord(one, 0));
            x.undo();
            Check.same("and again after undoing", x.addGeneratingWord(one, 0), 6);
        }
    }

    private static void removalOfEachWord() {
        // None of these words is a product of the others.
        String[] words = {"a", "baB", "bbaBB", "bbbaBBB", "caC", "ccaCC"};
        for (int removed = 0; removed < 6; removed++) {
            int number = removed;
            FreeGroupCalculator x = loaded(words);
            for (int i = 0; i < 6; i++) {
                x.addGeneratingWord(1, i);
            }
            Check.noSuchNumber("word 6 of six", () -> x.removeGeneratingWord(1, 6));
            Check.noSuchNumber("word -1", () -> x.removeGeneratingWord(1, -1));
            Check.noSuchNumber("word 0 of none", () -> x.removeGeneratingWord(0, number));
            Check.same("remaining words", x.removeGeneratingWord(1, number), 5);
            remaining(x, number, number + 1);
            Check.noSuchNumber("word 5 of five", () -> x.removeGeneratingWord(1, 5));
            if (number < 5) {
                Check.same("the word behind has its number", x.removeGeneratingWord(1, number), 4);
                remaining(x, number, number + 2);
                x.undo();
            }
            for (int left = 4; left >= 0; left--) {
                Check.same("remove the first", x.removeGeneratingWord(1, 0), left);
            }
            Check.noSuchNumber("no word is left", () -> x.removeGeneratingWord(1, 0));
            Check.same("the trivial subgroup", x.vertexCount(1), 1);
            Check.same("all come back", undoneWords(x), 6);
            remaining(x, 6, 6);
        }
    }

    private static void remaining(FreeGroupCalculator x, int from, int end) {
        for (int i = 0; i < 6; i++) {
            Check.same("word " + i, x.contains(1, i), i < from || i >= end);
        }
    }

    private static int undoneWords(FreeGroupCalculator x) {
        for (int i = 0; i < 6; i++) {
            x.undo();
        }
        return x.generatingWordCount(1);
    }

    // ---- undo

    private static void eightEditsAreKept() {
        for (int edits = 0; edits <= 20; edits++) {
            FreeGroupCalculator x = Check.loaded("rank 1;set 0 a;");
            for (int i = 0; i < edits; i++) {
                Check.same("edit", x.setProduct(1, 1, 0), i + 1);
            }
            int kept = Math.min(edits, 8);
            for (int undone = 1; undone <= kept; undone++) {
                Check.same("undo " + undone + " of " + edits, x.undo(), kept - undone);
                Check.same("the word before", x.wordLength(1), edits - undone);
            }
            Check.fails("nothing to undo after " + edits, STATE, x::undo);
            Check.same("the word stays", x.wordLength(1), edits - kept);
        }
    }

    private static void editsAfterUndoing() {
        for (int edits = 1; edits <= 12; edits++) {
            for (int undone = 1; undone <= Math.min(edits, 8); undone++) {
                FreeGroupCalculator x = Check.loaded("rank 1;set 0 a;set 2 aaaaaaaaaaaaaaaaaaaa;");
                for (int i = 0; i < edits; i++) {
                    x.setProduct(1, 1, 0);
                }
                int left = Math.min(edits, 8) - undone;
                for (int i = undone - 1; i >= 0; i--) {
                    Check.same("undo", x.undo(), left + i);
                }
                x.setProduct(1, 1, 2);
                Check.same("undo the new edit", x.undo(), left);
                Check.same("the word before it", x.wordLength(1), edits - undone);
                for (int i = left - 1; i >= 0; i--) {
                    Check.same("undo an old edit", x.undo(), i);
                }
                Check.fails("undone edits do not come back", STATE, x::undo);
                Check.same("the oldest word that is kept", x.wordLength(1), edits - undone - left);
            }
        }
    }

    /** Three edits, a saved state, a parse error, a formatted text and a word in the buffer. */
    private static FreeGroupCalculator busy() {
        FreeGroupCalculator x = Check.loaded("rank 2;set 0 aab;set 1 ba;set 2 b;set 3 aaaa;join 0 0;join 1 1;");
        x.setInverse(7, 0);
        x.save();
        x.setProduct(6, 0, 1);
        x.addGeneratingWord(0, 2);
        Check.put(x, "rank 2;x;");
        Check.fails("an error", ARGUMENT, x::load);
        x.formatWord(0);
        Check.put(x, "abab");
        return x;
    }

    private static void edit(FreeGroupCalculator x, int number) {
        switch (number) {
            case 0 -> x.setRegister(0);
            case 1 -> x.setProduct(0, 0, 1);
            case 2 -> x.setInverse(1, 0);
            case 3 -> x.setConjugate(1, 1, 2);
            case 4 -> x.setCommutator(2, 0, 1);
            case 5 -> x.setPower(5, 0, 3);
            case 6 -> x.setRoot(3, 3);
            case 7 -> x.substitute(0, 0, 0, 1);
            case 8 -> x.addGeneratingWord(1, 3);
            case 9 -> x.removeGeneratingWord(0, 0);
            default -> x.restore();
        }
    }

    private static void everyEditCanBeUndone() {
        Snapshot before = Snapshot.of(busy());
        for (int number = 0; number < EDITS; number++) {
            FreeGroupCalculator edited = busy();
            edit(edited, number);
            Check.same("edit " + number + " changes the state", Snapshot.of(edited).state().equals(before.state()),
                    false);
            FreeGroupCalculator undone = busy();
            edit(undone, number);
            Check.same("undo of edit " + number, undone.undo(), 3);
            FreeGroupCalculator due = busy();
            if (number == 0) {
                // The word that was in the buffer does not come back.
                due.truncate(0);
            }
            Check.same("all after undoing edit " + number, Snapshot.of(undone), Snapshot.of(due));
            FreeGroupCalculator full = busy();
            for (int i = 0; i < 8; i++) {
                full.setInverse(5, 2);
            }
            edit(full, number);
            Check.same("edit " + number + " takes the oldest one's place", full.undo(), 7);
        }
    }

    private static void whatIsNoEdit() {
        Snapshot before = Snapshot.of(busy());
        FreeGroupCalculator x = busy();
        Check.same("letters", x.save(), 18);
        Snapshot saved = Snapshot.of(x);
        Check.same("saving replaces the saved state", saved.saved().equals(before.saved()), false);
        Check.same("and nothing else", saved.withSaved(before), before);
        FreeGroupCalculator y = busy();
        for (int i = 0; i < 9; i++) {
            y.save();
        }
        Check.same("saving often is no edit", y.undo(), 2);
        FreeGroupCalculator z = busy();
        z.formatBasisWord(0, 0);
        z.formatRepresentative(0, 1);
        z.formatWord(1);
        Check.same("formatting", Snapshot.of(z).withFormatted(before), before);
        FreeGroupCalculator v = busy();
        v.append(0, 0, 0, 0, 0);
        Check.same("appending", Snapshot.of(v).withInput(before), before);
        v = busy();
        v.truncate(1);
        Check.same("truncating", Snapshot.of(v).withInput(before), before);
        v = busy();
        Check.fails("a refused load", ARGUMENT, v::load);
        Check.same("an empty buffer", v.append(0, 0, 0, 0, 0), 20);
        Check.same("a refused load", Snapshot.of(v).withInput(before).withError(before), before);
    }

    private static void editsThatChangeNothing() {
        FreeGroupCalculator x = Check.loaded("rank 2;set 0 aab;set 1 baB;");
        x.save();
        x.restore();
        x.setRegister(7);
        x.setProduct(0, 0, 7);
        x.setPower(0, 0, 1);
        x.setRoot(1, 1);
        x.setConjugate(1, 1, 7);
        x.setCommutator(7, 0, 0);
        x.substitute(7, 7, 0, 1);
        for (int left = 7; left >= 0; left--) {
            Check.same("an edit that changes nothing", x.undo(), left);
        }
        Check.same("register 0", Check.word(x, 0), "aab");
        Check.same("register 1", Check.word(x, 1), "baB");
    }

    // ---- saved state

    private static void savedStates() {
        FreeGroupCalculator x = Check.loaded("rank 1;set 0 a;");
        Check.fails("nothing is saved", STATE, x::restore);
        x.save();
        for (int i = 1; i <= 12; i++) {
            x.setProduct(1, 1, 0);
        }
        Check.same("the saved state outlives the edits", x.restore(), 1);
        Check.same("restoring is an edit", x.undo(), 7);
        Check.same("the word before it", x.wordLength(1), 12);
        for (int i = 0; i < 7; i++) {
            x.undo();
        }
        Check.same("undoing does not change the saved state", x.restore(), 1);
        for (int i = 0; i < 9; i++) {
            Check.same("it is kept", x.restore(), 1);
        }
        Check.same("eight of the restorings are kept", x.undo(), 7);
        Check.put(x, "rank 1;set 0 aa");
        Check.fails("an error", ARGUMENT, x::load);
        Check.same("the saved state outlives a refused text", x.restore(), 1);
        Check.put(x, "rank 2;set 0 aa;");
        Check.same("load", x.load(), 2);
        Check.fails("there is no saved state after a load", STATE, x::restore);
        Check.fails("and no edit to undo", STATE, x::undo);
        Check.same("a new saved state", x.save(), 2);
        x.setPower(0, 0, 0);
        Check.same("restored", x.restore(), 2);
        FreeGroupCalculator y = new FreeGroupCalculator();
        Check.same("a new object can be saved", y.save(), 0);
        Check.same("and restored", y.restore(), 0);
    }

    private static void lettersInAllRegisters() {
        for (int register = 0; register < 8; register++) {
            FreeGroupCalculator x = Check.loaded("rank 1;set " + register + " " + "a".repeat(60) + ";join 0 "
                    + register + ";");
            Check.same("letters of register " + register, x.save(), 60);
            x.setInverse((register + 1) % 8, register);
            Check.same("letters of two registers", x.save(), 120);
            x.setPower(register, register, 0);
            Check.same("letters of one register", x.save(), 60);
            x.undo();
            Check.same("the saved letters", x.restore(), 60);
            Check.same("the saved word", x.wordLength(register), 0);
        }
    }
}
