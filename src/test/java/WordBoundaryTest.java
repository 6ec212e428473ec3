import java.util.NoSuchElementException;

/** The boundary cases of promises 7 to 24: empty words, words of 60 letters, and each number just out of range. */
public final class WordBoundaryTest {
    private static final int NONE = FreeGroupCalculator.NONE;
    private static final String SIXTY = "a".repeat(60);

    public static void main(String[] args) {
        everyLetter();
        emptyWords();
        fullWords();
        prefixesOfEachLength();
        cancellationsOfEachLength();
        orderOfLetters();
        generators();
        coresOfEachLength();
        rotationsOfEachLength();
        notConjugate();
        rootsOfEachExponent();
        degreesOfExpansions();
        largestCoefficients();
        everyTermOfDegreeTwo();
        Check.end();
    }

    private static void everyLetter() {
        FreeGroupCalculator x = Check.loaded("rank 4; set 0 " + "abcdABCD".repeat(7) + "abcd; set 1 aA; set 2 D;");
        for (int index = 0; index < 60; index++) {
            Check.same("letter " + index, x.letter(0, index), "abcdABCD".charAt(index % 8));
        }
        for (int index : new int[] {60, 61, -1, Integer.MAX_VALUE, Integer.MIN_VALUE}) {
            Check.noSuchNumber("letter " + index, () -> x.letter(0, index));
            Check.noSuchNumber("letter " + index, () -> x.coreLetter(0, index));
        }
        for (int register : new int[] {1, 3, 7}) {
            Check.noSuchNumber("letter of the empty word", () -> x.letter(register, 0));
            Check.noSuchNumber("letter of the empty core", () -> x.coreLetter(register, 0));
        }
        Check.same("one letter", x.letter(2, 0), 'D');
        Check.noSuchNumber("letter behind the only one", () -> x.letter(2, 1));
    }

    private static void emptyWords() {
        FreeGroupCalculator x = Check.loaded("rank 1; set 0 a;");
        Check.same("length", x.wordLength(7), 0);
        Check.same("equal", x.areEqual(6, 7), true);
        Check.same("not equal", x.areEqual(0, 7), false);
        Check.same("not equal", x.areEqual(7, 0), false);
        Check.same("inverse", x.areInverse(6, 7), true);
        Check.same("not inverse", x.areInverse(0, 7), false);
        Check.same("not inverse", x.areInverse(7, 0), false);
        Check.same("compare", x.compare(6, 7), 0);
        Check.same("before a letter", x.compare(7, 0), -1);
        Check.same("behind the empty word", x.compare(0, 7), 1);
        Check.same("sum", x.exponentSum(7, 0), 0);
        Check.same("prefix", x.commonPrefix(6, 7), 0);
        Check.same("prefix", x.commonPrefix(0, 7), 0);
        Check.same("prefix", x.commonPrefix(7, 0), 0);
        Check.same("cancellation", x.cancellation(6, 7), 0);
        Check.same("cancellation", x.cancellation(0, 7), 0);
        Check.same("cancellation", x.cancellation(7, 0), 0);
        Check.same("commute", x.doCommute(7, 7) && x.doCommute(0, 7) && x.doCommute(7, 0), true);
        Check.same("core", x.coreLength(7), 0);
        Check.same("conjugate", x.areConjugate(6, 7), true);
        Check.same("not conjugate", x.areConjugate(0, 7) || x.areConjugate(7, 0), false);
        Check.same("rotation", x.rotation(6, 7), 0);
        Check.fails("rotation", NoSuchElementException.class, () -> x.rotation(0, 7));
        Check.fails("rotation", NoSuchElementException.class, () -> x.rotation(7, 0));
        Check.fails("root exponent", NoSuchElementException.class, () -> x.rootExponent(7));
        Check.same("degree", x.magnusDegree(7), NONE);
        Check.same("coefficient", x.magnusCoefficient(7, 0, 0), 0);
    }

    private static void fullWords() {
        FreeGroupCalculator x = Check.loaded("rank 2; set 0 " + SIXTY + "; set 1 " + "A".repeat(60) + "; set 2 "
                + "a".repeat(59) + "; set 3 " + "a".repeat(59) + "b; set 4 " + "B" + "A".repeat(59) + ";");
        Check.same("length", x.wordLength(0), 60);
        Check.same("last letter differs", x.areEqual(0, 3), false);
        Check.same("one letter less", x.areEqual(0, 2), false);
        Check.same("inverse", x.areInverse(0, 1) && x.areInverse(1, 0) && x.areInverse(3, 4), true);
        Check.same("a letter less than the inverse", x.areInverse(2, 1) || x.areInverse(1, 2), false);
        Check.same("a letter other than the inverse", x.areInverse(3, 1) || x.areInverse(0, 4), false);
        Check.same("59 before 60", x.compare(2, 0), -1);
        Check.same("60 after 59", x.compare(1, 2), 1);
        Check.same("the last letter decides", x.compare(0, 3), -1);
        Check.same("the last letter decides", x.compare(3, 0), 1);
        Check.same("sum", x.exponentSum(0, 0), 60);
        Check.same("sum of inverses", x.exponentSum(1, 0), -60);
        Check.same("sum of the last letter", x.exponentSum(3, 1), 1);
        Check.same("commute", x.doCommute(0, 1) && x.doCommute(0, 2) && x.doCommute(3, 4), true);
        Check.same("do not commute", x.doCommute(0, 3) || x.doCommute(4, 1), false);
    }

    private static void prefixesOfEachLength() {
        for (int length = 0; length <= 60; length++) {
            FreeGroupCalculator x = Check.loaded("rank 2; set 0 " + SIXTY + ";");
            Check.put(x, "a".repeat(length) + "b".repeat(60 - length));
            x.setRegister(1);
            Check.same("common prefix", x.commonPrefix(0, 1), length);
            Check.same("and back", x.commonPrefix(1, 0), length);
            Check.same("equal only at 60", x.areEqual(0, 1), length == 60);
            Check.same("order", x.compare(0, 1), length == 60 ? 0 : -1);
        }
        for (int length = 0; length <= 60; length++) {
            FreeGroupCalculator y = Check.loaded("rank 2; set 0 " + SIXTY + ";");
            Check.put(y, "a".repeat(length));
            y.setRegister(1);
            Check.same("the whole shorter word", y.commonPrefix(0, 1), length);
            Check.same("and back", y.commonPrefix(1, 0), length);
            Check.same("the shorter first", y.compare(1, 0), length == 60 ? 0 : -1);
        }
    }

    private static void cancellationsOfEachLength() {
        for (int length = 0; length <= 60; length++) {
            FreeGroupCalculator x = Check.loaded("rank 2; set 0 " + SIXTY + ";");
            Check.put(x, "A".repeat(length) + "b".repeat(60 - length));
            x.setRegister(1);
            Check.same("cancellation of " + length, x.cancellation(0, 1), length);
            Check.same("inverse only at 60", x.areInverse(0, 1), length == 60);
            Check.same("none or all in the other order", x.cancellation(1, 0), length == 60 ? 60 : 0);
        }
        for (int length = 0; length <= 60; length++) {
            FreeGroupCalculator y = Check.loaded("rank 2; set 0 " + SIXTY + ";");
            Check.put(y, "A".repeat(length));
            y.setRegister(1);
            Check.same("the whole shorter factor", y.cancellation(0, 1), length);
            Check.same("and back", y.cancellation(1, 0), length);
        }
    }

    private static void orderOfLetters() {
        String letters = "aAbBcCdD";
        for (int left = 0; left < 8; left++) {
            for (int right = 0; right < 8; right++) {
                FreeGroupCalculator x = Check.loaded("rank 4; set 0 " + letters.charAt(left) + "; set 1 "
                        + letters.charAt(right) + ";");
                Check.same("order of letters", x.compare(0, 1), Integer.compare(left, right));
                Check.same("equal", x.areEqual(0, 1), left == right);
                Check.same("inverse", x.areInverse(0, 1), left == (right ^ 1));
                Check.same("commute", x.doCommute(0, 1), left / 2 == right / 2);
            }
        }
    }

    private static void generators() {
        for (int rank = 1; rank <= 4; rank++) {
            FreeGroupCalculator x = Check.loaded("rank " + rank + "; set 0 a; set 1 " + (char) ('A' + rank - 1) + ";");
            int last = rank - 1;
            Check.same("of the last generator", x.exponentSum(1, last), -1);
            Check.same("coefficient of the last generator", x.magnusCoefficient(1, last, last), 1);
            Check.same("neighbour along the last letter", x.neighbour(0, 0, 2 * rank - 1), NONE);
            Check.same("a generator that does not occur", x.substitute(2, 0, last, 7), rank == 1 ? 0 : 1);
            for (int bad : new int[] {rank, -1, Integer.MAX_VALUE, Integer.MIN_VALUE}) {
                Check.noSuchNumber("sum", () -> x.exponentSum(0, bad));
                Check.noSuchNumber("sum in the empty word", () -> x.exponentSum(7, bad));
                Check.noSuchNumber("coefficient", () -> x.magnusCoefficient(0, bad, 0));
                Check.noSuchNumber("coefficient", () -> x.magnusCoefficient(0, 0, bad));
                Check.noSuchNumber("substitution", () -> x.substitute(2, 7, bad, 7));
            }
            for (int bad : new int[] {2 * rank, 2 * rank + 1, -1, Integer.MAX_VALUE, Integer.MIN_VALUE}) {
                Check.noSuchNumber("neighbour along no letter of the group", () -> x.neighbour(0, 0, bad));
            }
        }
    }

    private static void coresOfEachLength() {
        for (int stem = 0; stem <= 29; stem++) {
            int size = 60 - 2 * stem;
            FreeGroupCalculator x = Check.loaded("rank 2; set 0 " + "a".repeat(stem) + "b".repeat(size)
                    + "A".repeat(stem) + "; set 1 " + "A".repeat(stem) + "B" + "a".repeat(stem) + ";");
            Check.same("length of the core", x.coreLength(0), size);
            Check.same("first letter", x.coreLetter(0, 0), 'b');
            Check.same("last letter", x.coreLetter(0, size - 1), 'b');
            Check.noSuchNumber("letter behind the core", () -> x.coreLetter(0, size));
            Check.noSuchNumber("letter before the core", () -> x.coreLetter(0, -1));
            Check.same("a core of one letter", x.coreLength(1), 1);
            Check.same("its letter", x.coreLetter(1, 0), 'B');
            Check.noSuchNumber("behind it", () -> x.coreLetter(1, 1));
            Check.same("root exponent", x.rootExponent(0), size);
            Check.same("root", x.setRoot(2, 0), 2 * stem + 1);
        }
    }

    private static void rotationsOfEachLength() {
        for (int shift = 0; shift < 60; shift++) {
            String word = "a".repeat(59) + "b";
            String rotated = word.substring(shift) + word.substring(0, shift);
            FreeGroupCalculator x = Check.loaded("rank 2; set 0 " + word + "; set 1 " + rotated + ";");
            Check.same("rotation", x.rotation(0, 1), shift);
            Check.same("and back", x.rotation(1, 0), (60 - shift) % 60);
            Check.same("conjugate", x.areConjugate(0, 1), true);
        }
        FreeGroupCalculator y = Check.loaded("rank 2; set 0 aab; set 1 B aba b; set 2 bbb baa BBB; set 3 aab;");
        Check.same("from core to core", y.rotation(0, 1), 1);
        Check.same("from core to core", y.rotation(1, 2), 1);
        Check.same("from core to core", y.rotation(2, 0), 1);
        Check.same("equal words", y.rotation(0, 3), 0);
        FreeGroupCalculator z = Check.loaded("rank 2; set 0 " + "ab".repeat(30) + "; set 1 " + "ba".repeat(30) + ";");
        Check.same("the smallest of thirty", z.rotation(0, 1), 1);
        Check.same("the smallest of thirty", z.rotation(1, 1), 0);
    }

    private static void notConjugate() {
        FreeGroupCalculator x = Check.loaded("rank 2; set 0 " + "a".repeat(59) + "b; set 1 " + "a".repeat(58)
                + "bb; set 2 " + "a".repeat(59) + "B; set 3 " + "a".repeat(58) + "b; set 4 aabb; set 5 abab; set 6 a;");
        for (int register = 0; register < 8; register++) {
            int one = register;
            for (int other = 0; other < register; other++) {
                int another = other;
                Check.same("conjugate", x.areConjugate(one, another), false);
                Check.fails("rotation", NoSuchElementException.class, () -> x.rotation(one, another));
                Check.fails("and back", NoSuchElementException.class, () -> x.rotation(another, one));
            }
        }
    }

    private static void rootsOfEachExponent() {
        for (int exponent = 1; exponent <= 60; exponent++) {
            int size = 60 / exponent;
            String root = "a".repeat(size - 1) + "b";
            FreeGroupCalculator x = Check.loaded("rank 2; set 0 " + root.repeat(exponent) + ";");
            Check.same("root exponent", x.rootExponent(0), exponent);
            Check.same("root", x.setRoot(1, 0), size);
            Check.same("word of the root", Check.word(x, 1), root);
            Check.same("root of the root", x.rootExponent(1), 1);
        }
        FreeGroupCalculator y = Check.loaded("rank 2; set 0 " + "ab".repeat(29) + "aa; set 1 " + "aab".repeat(19)
                + "aa; set 2 ababa; set 3 B;");
        for (int register = 0; register < 4; register++) {
            Check.same("periodic but for the end", y.rootExponent(register), 1);
            Check.same("its own root", y.setRoot(7, register), y.wordLength(register));
            Check.same("its own root", y.areEqual(7, register), true);
        }
    }

    private static void degreesOfExpansions() {
        FreeGroupCalculator x = Check.loaded("rank 4; set 0 a; set 1 b;");
        x.setCommutator(2, 0, 1);
        x.setCommutator(3, 2, 0);
        x.setCommutator(4, 3, 1);
        int[] lengths = new int[5];
        for (int degree = 1; degree <= 4; degree++) {
            int register = degree == 1 ? 1 : degree;
            Check.same("lowest degree", x.magnusDegree(register), degree);
            lengths[degree] = x.wordLength(register);
            for (int lower = 1; lower < degree; lower++) {
                Check.same("norm of a lower degree", x.magnusNorm(register, lower), 0L);
            }
            Check.same("norm of the degree", x.magnusNorm(register, degree) > 0, true);
            Check.same("norm of degree 0", x.magnusNorm(register, 0), 1L);
        }
        Check.same("a commutator of degree 5", x.setCommutator(5, 4, 0) > lengths[4], true);
        Check.same("all coefficients are 0", x.magnusDegree(5), NONE);
        for (int degree = 1; degree <= 4; degree++) {
            Check.same("norm of dropped terms", x.magnusNorm(5, degree), 0L);
        }
        for (int bad : new int[] {-1, 5, Integer.MIN_VALUE, Integer.MAX_VALUE}) {
            Check.fails("degree " + bad, IllegalArgumentException.class, () -> x.magnusNorm(5, bad));
            Check.fails("degree of the empty word", IllegalArgumentException.class, () -> x.magnusNorm(7, bad));
        }
    }

    private static void largestCoefficients() {
        long[] powers = {1, 60, 1770, 34220, 487635};
        long[] inversePowers = {1, 60, 1830, 37820, 595665};
        for (int generator = 0; generator < 4; generator++) {
            char small = (char) ('a' + generator);
            char capital = (char) ('A' + generator);
            FreeGroupCalculator x = Check.loaded("rank 4; set 0 " + String.valueOf(small).repeat(60) + "; set 1 "
                    + String.valueOf(capital).repeat(60) + ";");
            for (int degree = 0; degree <= 4; degree++) {
                Check.same("60 over " + degree, x.magnusNorm(0, degree), powers[degree]);
                Check.same("-60 over " + degree, x.magnusNorm(1, degree), inversePowers[degree]);
            }
            Check.same("60 over 2", x.magnusCoefficient(0, generator, generator), 1770);
            Check.same("-60 over 2", x.magnusCoefficient(1, generator, generator), 1830);
        }
    }

    private static void everyTermOfDegreeTwo() {
        for (int first = 0; first < 4; first++) {
            for (int second = 0; second < 4; second++) {
                FreeGroupCalculator x = Check.loaded("rank 4; set 0 " + (char) ('a' + first) + " "
                        + (char) ('A' + second) + ";");
                for (int i = 0; i < 16; i++) {
                    boolean isTheTerm = first != second && i / 4 == first && i % 4 == second;
                    boolean isSquare = first != second && i / 4 == second && i % 4 == second;
                    Check.same("coefficient", x.magnusCoefficient(0, i / 4, i % 4), isTheTerm ? -1 : isSquare ? 1 : 0);
                }
            }
        }
    }
}
