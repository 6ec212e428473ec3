import java.util.NoSuchElementException;

/** Promises 17 to 21: cores, conjugacy and roots. */
public final class CyclicWordsTest {
    private static final FreeGroupCalculator X = Check.loaded("rank 2; set 0 abaB aB BA; set 1 Baab;"
            + "set 2 a a b; set 3 aba; set 4 ababab; set 5 B ababab b; set 6 aabb;");

    public static void main(String[] args) {
        cores();
        conjugacy();
        roots();
        noSuchNumbers();
        Check.end();
    }

    private static void cores() {
        Check.same("word", Check.word(X, 0), "abaBaBBA");
        Check.same("core", Check.core(X, 0), "aBaB");
        Check.same("core of a conjugate", Check.core(X, 1), "aa");
        Check.same("its length", X.coreLength(1), 2);
        Check.same("cyclically reduced", Check.core(X, 3), "aba");
        Check.same("empty", X.coreLength(7), 0);
        Check.noSuchNumber("behind the core", () -> X.coreLetter(1, 2));
        Check.noSuchNumber("before the core", () -> X.coreLetter(1, -1));
        Check.noSuchNumber("the empty core", () -> X.coreLetter(7, 0));
        String text = "rank 2; set 0 " + "a".repeat(29) + "bb" + "A".repeat(29) + ";";
        Check.same("core of a long word", Check.core(Check.loaded(text), 0), "bb");
    }

    private static void conjugacy() {
        Check.same("rotations", X.areConjugate(2, 3), true);
        Check.same("smallest rotation", X.rotation(2, 3), 1);
        Check.same("the other way", X.rotation(3, 2), 2);
        Check.same("of itself", X.rotation(6, 6), 0);
        Check.same("of a power", X.rotation(4, 5), 0);
        Check.same("other letters", X.areConjugate(1, 7), false);
        Check.same("empty words", X.areConjugate(7, 7), true);
        Check.same("rotation of empty words", X.rotation(7, 7), 0);
        Check.same("not conjugate", X.areConjugate(4, 6), false);
        Check.same("other length", X.areConjugate(2, 6), false);
        Check.fails("rotation", NoSuchElementException.class, () -> X.rotation(4, 6));
        Check.fails("rotation of other lengths", NoSuchElementException.class, () -> X.rotation(7, 6));
        FreeGroupCalculator y = Check.loaded("rank 2; set 0 ababab; set 1 bababa; set 2 abaaba; set 3 A;set 4 a;");
        Check.same("smallest of several rotations", y.rotation(0, 1), 1);
        Check.same("same length, no rotation", y.areConjugate(0, 2), false);
        Check.same("a letter and its inverse", y.areConjugate(3, 4), false);
    }

    private static void roots() {
        Check.same("cube", X.rootExponent(4), 3);
        Check.same("conjugate of a cube", X.rootExponent(5), 3);
        Check.same("square inside", X.rootExponent(1), 2);
        Check.same("no power", X.rootExponent(6), 1);
        Check.same("no power though periodic", X.rootExponent(3), 1);
        FreeGroupCalculator y = Check.loaded("rank 1; set 0 " + "A".repeat(60) + "; set 1 a;");
        Check.same("60th power", y.rootExponent(0), 60);
        Check.same("a letter", y.rootExponent(1), 1);
        Check.fails("empty word", NoSuchElementException.class, () -> X.rootExponent(7));
    }

    private static void noSuchNumbers() {
        for (int bad : new int[] {-1, 8, Integer.MIN_VALUE, Integer.MAX_VALUE}) {
            Check.noSuchNumber("coreLength", () -> X.coreLength(bad));
            Check.noSuchNumber("coreLetter", () -> X.coreLetter(bad, 0));
            Check.noSuchNumber("coreLetter", () -> X.coreLetter(0, bad));
            Check.noSuchNumber("areConjugate", () -> X.areConjugate(bad, 0));
            Check.noSuchNumber("areConjugate", () -> X.areConjugate(0, bad));
            Check.noSuchNumber("rotation", () -> X.rotation(bad, 0));
            Check.noSuchNumber("rotation", () -> X.rotation(0, bad));
            Check.noSuchNumber("rootExponent", () -> X.rootExponent(bad));
        }
    }
}
