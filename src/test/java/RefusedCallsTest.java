import java.util.NoSuchElementException;
import java.util.function.Consumer;

/**
 * Refused calls of all promises: the exception that is listed first among those that apply, and that nothing changes.
 * Each call is made on an object of its own, which is then compared with one that has not got the call.
 */
public final class RefusedCallsTest {
    private static final Class<? extends RuntimeException> INDEX = IndexOutOfBoundsException.class;
    private static final Class<? extends RuntimeException> ARGUMENT = IllegalArgumentException.class;
    private static final Class<? extends RuntimeException> STATE = IllegalStateException.class;
    private static final Class<? extends RuntimeException> NO_ELEMENT = NoSuchElementException.class;
    private static final int[] FAR = {-1, Integer.MIN_VALUE, Integer.MAX_VALUE};

    private static final String LONG = "a".repeat(60);

    public static void main(String[] args) {
        inputBuffer();
        loads();
        words();
        subgroups();
        formats();
        edits();
        productsThatAreTooLong();
        theFirstListed();
        nothingToUndoOrRestore();
        Check.end();
    }

    /**
     * Rank 3; register 4 is empty, 5 has 60 letters; subgroup 0 is full, subgroup 1 has two words; three edits can be
     * undone; there are a saved state, a parse error, a formatted text and five bytes in the buffer.
     */
    private static FreeGroupCalculator busy() {
        FreeGroupCalculator x = Check.loaded("rank 3;set 0 aab;set 1 bc;set 2 C;set 3 baB;set 5 " + LONG
                + ";set 6 " + "b".repeat(60) + ";join 1 0;" + "join 0 1;".repeat(3) + "join 0 2;join 0 4;");
        x.setInverse(7, 0);
        x.save();
        x.addGeneratingWord(0, 3);
        x.addGeneratingWord(1, 3);
        Check.put(x, "rank 1;set 0 b;");
        try {
            x.load();
        } catch (IllegalArgumentException e) {
            Check.same("the kind of the parse error", x.errorKind(), FreeGroupCalculator.UNKNOWN_GENERATOR);
        }
        x.formatWord(3);
        Check.put(x, "ccAbB");
        return x;
    }

    private static void refused(String what, Class<? extends RuntimeException> due,
            Consumer<FreeGroupCalculator> call) {
        refused(what, due, busy(), busy(), call);
    }

    private static void refused(String what, Class<? extends RuntimeException> due, FreeGroupCalculator x,
            FreeGroupCalculator twin, Consumer<FreeGroupCalculator> call) {
        Check.fails(what, due, () -> {
            call.accept(x);
            return "no exception";
        });
        Check.same("all after " + what, Snapshot.of(x), Snapshot.of(twin));
    }

    private static FreeGroupCalculator withInput(int length) {
        FreeGroupCalculator x = busy();
        x.truncate(0);
        Check.put(x, "ab".repeat(300));
        x.truncate(length);
        return x;
    }

    private static void inputBuffer() {
        for (int length : new int[] {581, 590, 599, 600}) {
            refused("append to " + length + " bytes", STATE, withInput(length), withInput(length),
                    x -> x.append(0x61616161, 0, 0, 0, 0));
        }
        refused("truncate above the length", ARGUMENT, x -> x.truncate(6));
        refused("truncate of the empty buffer", ARGUMENT, withInput(0), withInput(0), x -> x.truncate(1));
        refused("truncate of a full buffer", ARGUMENT, withInput(600), withInput(600), x -> x.truncate(601));
        for (int bad : FAR) {
            refused("truncate", ARGUMENT, x -> x.truncate(bad));
        }
    }

    // A refused text changes the input buffer and the parse error, and nothing else.
    private static void loads() {
        String[] texts = {
            "", "rank 2", "rank 0;", "rank 4;set 0 abcd;set 1 dd;join 1 1", "rank 4;set 0 e;", "rank 1;set 0 a;set 8 a;",
            "rank 1;set 0 " + LONG + " a;", "rank 4;" + "join 0 0;".repeat(7), "rank 4;join 1 0;join 1 0;join 2 0;", "!"
        };
        for (String text : texts) {
            FreeGroupCalculator x = busy();
            x.truncate(0);
            Check.put(x, text);
            Check.fails("load of " + text, ARGUMENT, x::load);
            Check.same("an error in " + text, x.errorKind() > 0 && x.errorPosition() >= 0, true);
            Snapshot found = Snapshot.of(x);
            FreeGroupCalculator twin = busy();
            twin.truncate(0);
            Snapshot due = Snapshot.of(twin);
            Check.same("all after load of " + text, found.withError(due), due);
        }
    }

    private static void words() {
        refused("letter behind the last", INDEX, x -> x.letter(0, 3));
        refused("letter of the empty word", INDEX, x -> x.letter(4, 0));
        refused("letter behind sixty", INDEX, x -> x.letter(5, 60));
        refused("letter behind the core", INDEX, x -> x.coreLetter(3, 1));
        refused("generator", INDEX, x -> x.exponentSum(0, 3));
        refused("not conjugate", NO_ELEMENT, x -> x.rotation(0, 1));
        refused("root of the empty word", NO_ELEMENT, x -> x.rootExponent(4));
        refused("degree 5", ARGUMENT, x -> x.magnusNorm(0, 5));
        refused("degree -1", ARGUMENT, x -> x.magnusNorm(0, -1));
        refused("first generator", INDEX, x -> x.magnusCoefficient(0, 3, 0));
        refused("second generator", INDEX, x -> x.magnusCoefficient(0, 0, 3));
        refused("register", INDEX, x -> x.wordLength(8));
        refused("register", INDEX, x -> x.magnusDegree(8));
        refused("register", INDEX, x -> x.doCommute(0, 8));
    }

    private static void subgroups() {
        refused("subgroup", INDEX, x -> x.vertexCount(2));
        refused("vertex", INDEX, x -> x.neighbour(1, x.vertexCount(1), 0));
        refused("letter", INDEX, x -> x.neighbour(1, 0, 6));
        refused("register", INDEX, x -> x.contains(0, 8));
        refused("register", INDEX, x -> x.smallestPower(0, 8));
        refused("vertex", INDEX, x -> x.representativeLength(1, x.vertexCount(1)));
        refused("other subgroup", INDEX, x -> x.containsSubgroup(0, 2));
    }

    // The formatted text "bab-1" of the sample stays.
    private static void formats() {
        for (int bad : new int[] {-1, 8}) {
            refused("format of no register", INDEX, x -> x.formatWord(bad));
        }
        refused("basis word behind the last", INDEX, x -> x.formatBasisWord(1, x.subgroupRank(1)));
        refused("basis word -1", INDEX, x -> x.formatBasisWord(1, -1));
        refused("basis word of no subgroup", INDEX, x -> x.formatBasisWord(2, 0));
        refused("representative behind the last", INDEX, x -> x.formatRepresentative(1, x.vertexCount(1)));
        refused("representative of no subgroup", INDEX, x -> x.formatRepresentative(-1, 0));
        refused("character behind the last", INDEX, x -> x.formattedCharacter(5));
        refused("character -1", INDEX, x -> x.formattedCharacter(-1));
    }

    private static void edits() {
        for (int bad : new int[] {-1, 8, Integer.MIN_VALUE, Integer.MAX_VALUE}) {
            refused("setRegister", INDEX, x -> x.setRegister(bad));
            refused("setProduct", INDEX, x -> x.setProduct(0, 1, bad));
            refused("setInverse", INDEX, x -> x.setInverse(bad, 1));
            refused("setConjugate", INDEX, x -> x.setConjugate(0, bad, 1));
            refused("setCommutator", INDEX, x -> x.setCommutator(0, 1, bad));
            refused("setPower", INDEX, x -> x.setPower(0, bad, 2));
            refused("setRoot", INDEX, x -> x.setRoot(0, bad));
            refused("substitute", INDEX, x -> x.substitute(0, 1, 1, bad));
            refused("addGeneratingWord", INDEX, x -> x.addGeneratingWord(1, bad));
            refused("removeGeneratingWord", INDEX, x -> x.removeGeneratingWord(0, bad));
        }
        refused("setPower", ARGUMENT, x -> x.setPower(0, 1, 21));
        refused("setPower", ARGUMENT, x -> x.setPower(0, 1, -21));
        refused("setRoot", NO_ELEMENT, x -> x.setRoot(0, 4));
        refused("substitute", INDEX, x -> x.substitute(0, 1, 3, 2));
        refused("substitute", INDEX, x -> x.substitute(0, 1, -1, 2));
        refused("addGeneratingWord", STATE, x -> x.addGeneratingWord(0, 1));
        refused("removeGeneratingWord", INDEX, x -> x.removeGeneratingWord(1, 2));
        refused("removeGeneratingWord", INDEX, x -> x.removeGeneratingWord(0, 6));
    }

    private static void productsThatAreTooLong() {
        refused("setProduct", STATE, x -> x.setProduct(0, 5, 1));
        refused("setConjugate", STATE, x -> x.setConjugate(0, 5, 1));
        refused("setCommutator", STATE, x -> x.setCommutator(0, 5, 6));
        refused("setPower", STATE, x -> x.setPower(0, 5, -2));
        refused("substitute", STATE, x -> x.substitute(0, 5, 0, 1));
        refused("setRegister", STATE, withInput(61), withInput(61), x -> x.setRegister(0));
        refused("setRegister", STATE, withInput(600), withInput(600), x -> x.setRegister(5));
        refused("setRegister with a bad byte", ARGUMENT, withBadByte(), withBadByte(), x -> x.setRegister(0));
    }

    private static FreeGroupCalculator withBadByte() {
        FreeGroupCalculator x = busy();
        x.truncate(0);
        Check.put(x, LONG + "ad");
        return x;
    }

    private static void theFirstListed() {
        refused("no register before no conjugate", INDEX, x -> x.rotation(8, 1));
        refused("no register before no conjugate", INDEX, x -> x.rotation(1, 8));
        refused("no register before no degree", INDEX, x -> x.magnusNorm(-1, 5));
        refused("no register before a bad byte", INDEX, withBadByte(), withBadByte(), x -> x.setRegister(8));
        refused("no register before too long a word", INDEX, withInput(61), withInput(61), x -> x.setRegister(-1));
        refused("no register before too long a product", INDEX, x -> x.setProduct(8, 5, 5));
        refused("no register before too long a conjugate", INDEX, x -> x.setConjugate(8, 5, 6));
        refused("no register before too long a commutator", INDEX, x -> x.setCommutator(8, 5, 6));
        refused("no register before no exponent", INDEX, x -> x.setPower(8, 5, 21));
        refused("no source before no exponent", INDEX, x -> x.setPower(0, 8, -21));
        refused("no register before too long a power", INDEX, x -> x.setPower(-1, 5, 2));
        refused("no exponent before too long a power", ARGUMENT, x -> x.setPower(0, 5, 21));
        refused("no register before the empty word", INDEX, x -> x.setRoot(8, 4));
        refused("no register before too long a result", INDEX, x -> x.substitute(8, 5, 0, 6));
        refused("no generator before too long a result", INDEX, x -> x.substitute(0, 5, 3, 6));
        refused("no register before a full subgroup", INDEX, x -> x.addGeneratingWord(0, 8));
        refused("no subgroup", INDEX, x -> x.addGeneratingWord(2, 0));
    }

    private static void nothingToUndoOrRestore() {
        refused("undo on a new object", STATE, new FreeGroupCalculator(), new FreeGroupCalculator(),
                FreeGroupCalculator::undo);
        refused("restore on a new object", STATE, new FreeGroupCalculator(), new FreeGroupCalculator(),
                FreeGroupCalculator::restore);
        refused("undo after all is undone", STATE, undone(), undone(), FreeGroupCalculator::undo);
        refused("restore after a load", STATE, savedAndLoaded(), savedAndLoaded(), FreeGroupCalculator::restore);
        refused("undo after a load", STATE, savedAndLoaded(), savedAndLoaded(), FreeGroupCalculator::undo);
    }

    private static FreeGroupCalculator undone() {
        FreeGroupCalculator x = busy();
        for (int left = 2; left >= 0; left--) {
            Check.same("undo", x.undo(), left);
        }
        return x;
    }

    private static FreeGroupCalculator savedAndLoaded() {
        FreeGroupCalculator x = busy();
        x.truncate(0);
        Check.put(x, "rank 2;set 0 ab;join 1 0;");
        Check.same("load", x.load(), 2);
        return x;
    }
}
