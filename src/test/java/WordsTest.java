/** Promises 7 to 16: the rank of the group and what is asked of words. */
public final class WordsTest {
    private static final FreeGroupCalculator X = Check.loaded("rank 3; set 0 abAc; set 1 CaBA; set 2 abAcc;"
            + "set 3 abab; set 4 ababab; set 5 BA; set 6 abB CbAA;");

    public static void main(String[] args) {
        lettersOfWords();
        comparisons();
        longWords();
        sums();
        products();
        noSuchNumbers();
        Check.end();
    }

    private static void lettersOfWords() {
        Check.same("rank", X.groupRank(), 3);
        Check.same("length", X.wordLength(0), 4);
        Check.same("empty", X.wordLength(7), 0);
        Check.same("letters", Check.word(X, 1), "CaBA");
        Check.same("first letter", X.letter(2, 0), 'a');
        Check.same("last letter", X.letter(2, 4), 'c');
        Check.noSuchNumber("letter behind", () -> X.letter(0, 4));
        Check.noSuchNumber("letter before", () -> X.letter(0, -1));
        Check.noSuchNumber("letter of the empty word", () -> X.letter(7, 0));
        FreeGroupCalculator y = Check.loaded("rank 4; set 0 dDcCbBaAdCbA;");
        Check.same("all letters", Check.word(y, 0), "dCbA");
    }

    private static void comparisons() {
        Check.same("equal to itself", X.areEqual(0, 0), true);
        Check.same("not equal", X.areEqual(0, 1), false);
        Check.same("a prefix is not equal", X.areEqual(0, 2), false);
        Check.same("inverse", X.areInverse(0, 1), true);
        Check.same("inverse, other way", X.areInverse(1, 0), true);
        Check.same("not its own inverse", X.areInverse(0, 0), false);
        Check.same("a part of the inverse", X.areInverse(3, 5), false);
        Check.same("empty words are inverse", X.areInverse(7, 7), true);
        Check.same("shorter first", X.compare(0, 2), -1);
        Check.same("longer last", X.compare(2, 0), 1);
        Check.same("shorter first in spite of codes", X.compare(5, 0), -1);
        Check.same("by codes", X.compare(0, 1), -1);
        Check.same("by codes, other way", X.compare(1, 0), 1);
        Check.same("equal", X.compare(2, 2), 0);
        FreeGroupCalculator y = Check.loaded("rank 2; set 0 aab; set 1 aaB; set 2 Abb; set 3 aab;");
        Check.same("b before B", y.compare(0, 1), -1);
        Check.same("a before A", y.compare(1, 2), -1);
        Check.same("A before b", y.compare(2, 0), 1);
        Check.same("equal words of two registers", y.compare(0, 3), 0);
        Check.same("prefix", X.commonPrefix(0, 2), 4);
        Check.same("prefix, other way", X.commonPrefix(2, 3), 2);
        Check.same("no prefix", X.commonPrefix(0, 1), 0);
        Check.same("empty prefix", X.commonPrefix(0, 7), 0);
        Check.same("whole prefix", X.commonPrefix(3, 3), 4);
    }

    private static void longWords() {
        FreeGroupCalculator x = Check.loaded("rank 2; set 0 " + "ab".repeat(30) + "; set 1 " + "ab".repeat(30)
                + "; set 2 " + "ab".repeat(29) + "aB; set 3 " + "BA".repeat(30) + ";");
        Check.same("equal", x.areEqual(0, 1), true);
        Check.same("equal", x.compare(0, 1), 0);
        Check.same("prefix", x.commonPrefix(0, 1), 60);
        Check.same("the last letter differs", x.areEqual(0, 2), false);
        Check.same("by the last letter", x.compare(0, 2), -1);
        Check.same("prefix", x.commonPrefix(0, 2), 59);
        Check.same("inverse", x.areInverse(0, 3), true);
        Check.same("cancellation", x.cancellation(0, 3), 60);
        Check.same("last letter", x.letter(2, 59), 'B');
        Check.noSuchNumber("letter behind", () -> x.letter(2, 60));
        Check.same("sum", x.exponentSum(2, 1), 28);
        Check.same("commute", x.doCommute(0, 3), true);
        Check.same("do not commute", x.doCommute(0, 2), false);
    }

    private static void sums() {
        Check.same("a", X.exponentSum(4, 0), 3);
        Check.same("cancelled in sum", X.exponentSum(0, 0), 0);
        Check.same("negative", X.exponentSum(1, 1), -1);
        Check.same("c", X.exponentSum(2, 2), 2);
        Check.same("A", X.exponentSum(6, 0), -1);
        Check.same("none", X.exponentSum(3, 2), 0);
    }

    private static void products() {
        Check.same("all pairs", X.cancellation(0, 1), 4);
        Check.same("some pairs", X.cancellation(3, 5), 2);
        Check.same("right longer", X.cancellation(5, 4), 2);
        Check.same("no pairs", X.cancellation(3, 4), 0);
        Check.same("empty factor", X.cancellation(7, 4), 0);
        FreeGroupCalculator z = Check.loaded("rank 2; set 0 abab; set 1 BAb;");
        Check.same("stops at the first difference", z.cancellation(0, 1), 2);
        Check.same("powers commute", X.doCommute(3, 4), true);
        Check.same("inverse powers commute", X.doCommute(4, 5), true);
        Check.same("with the empty word", X.doCommute(7, 2), true);
        Check.same("do not commute", X.doCommute(0, 3), false);
        String text = "rank 1; set 0 " + "a".repeat(60) + "; set 1 " + "a".repeat(59) + ";";
        Check.same("long products", Check.loaded(text).doCommute(0, 1), true);
        String other = "rank 2; set 0 " + "a".repeat(60) + "; set 1 " + "a".repeat(59) + "b;";
        Check.same("long products that differ", Check.loaded(other).doCommute(0, 1), false);
    }

    private static void noSuchNumbers() {
        for (int bad : new int[] {-1, 8, Integer.MIN_VALUE, Integer.MAX_VALUE}) {
            Check.noSuchNumber("wordLength", () -> X.wordLength(bad));
            Check.noSuchNumber("letter", () -> X.letter(bad, 0));
            Check.noSuchNumber("letter", () -> X.letter(0, bad));
            Check.noSuchNumber("areEqual", () -> X.areEqual(bad, 0));
            Check.noSuchNumber("areEqual", () -> X.areEqual(0, bad));
            Check.noSuchNumber("areInverse", () -> X.areInverse(bad, 0));
            Check.noSuchNumber("areInverse", () -> X.areInverse(0, bad));
            Check.noSuchNumber("compare", () -> X.compare(bad, 0));
            Check.noSuchNumber("compare", () -> X.compare(0, bad));
            Check.noSuchNumber("exponentSum", () -> X.exponentSum(bad, 0));
            Check.noSuchNumber("exponentSum", () -> X.exponentSum(0, bad));
            Check.noSuchNumber("commonPrefix", () -> X.commonPrefix(bad, 0));
            Check.noSuchNumber("commonPrefix", () -> X.commonPrefix(0, bad));
            Check.noSuchNumber("cancellation", () -> X.cancellation(bad, 0));
            Check.noSuchNumber("cancellation", () -> X.cancellation(0, bad));
            Check.noSuchNumber("doCommute", () -> X.doCommute(bad, 0));
            Check.noSuchNumber("doCommute", () -> X.doCommute(0, bad));
        }
        Check.noSuchNumber("a generator that the group lacks", () -> X.exponentSum(0, 3));
    }
}
