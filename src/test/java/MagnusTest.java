/** Promises 22 to 24: the Magnus expansion. */
public final class MagnusTest {
    // 3 is [a,b], 4 is [[a,b],a], 5 is [[[a,b],a],b]
    private static final FreeGroupCalculator X = made();

    public static void main(String[] args) {
        degrees();
        coefficients();
        norms();
        noSuchNumbers();
        Check.end();
    }

    private static FreeGroupCalculator made() {
        FreeGroupCalculator x = Check.loaded("rank 3; set 0 a; set 1 B; set 2 ab; set 6 abcaB; set 7 b;");
        x.setCommutator(3, 0, 7);
        x.setCommutator(4, 3, 0);
        x.setCommutator(5, 4, 7);
        Check.put(x, "");
        x.setRegister(7);
        return x;
    }

    private static void degrees() {
        Check.same("letter", X.magnusDegree(0), 1);
        Check.same("commutator", X.magnusDegree(3), 2);
        Check.same("double commutator", X.magnusDegree(4), 3);
        Check.same("triple commutator", X.magnusDegree(5), 4);
        Check.same("empty word", X.magnusDegree(7), FreeGroupCalculator.NONE);
        FreeGroupCalculator z = Check.loaded("rank 4; set 0 aB; set 1 c; set 2 D; set 3 aDbcAC; set 4 cdCD; set 5 bcBC;"
                + "set 6 daDAd; set 7 bAbaCBcB;");
        int[] due = {1, 1, 1, 1, 2, 2, 1, 2};
        for (int register = 0; register < 8; register++) {
            Check.same("degree of the register " + register, z.magnusDegree(register), due[register]);
        }
        FreeGroupCalculator y = Check.loaded("rank 2; set 0 a; set 1 b;");
        y.setCommutator(2, 0, 1);
        y.setCommutator(3, 2, 0);
        y.setCommutator(4, 3, 0);
        y.setCommutator(5, 2, 3);
        Check.same("word of degree 5", y.wordLength(5) > 0, true);
        Check.same("all terms are dropped", y.magnusDegree(5), FreeGroupCalculator.NONE);
        Check.same("norm 4 of it", y.magnusNorm(5, 4), 0L);
        Check.same("norm 0 of it", y.magnusNorm(5, 0), 1L);
    }

    private static void coefficients() {
        Check.same("aa of a", X.magnusCoefficient(0, 0, 0), 0);
        Check.same("bb of B", X.magnusCoefficient(1, 1, 1), 1);
        Check.same("ab of ab", X.magnusCoefficient(2, 0, 1), 1);
        Check.same("ba of ab", X.magnusCoefficient(2, 1, 0), 0);
        Check.same("ab of [a,b]", X.magnusCoefficient(3, 0, 1), 1);
        Check.same("ba of [a,b]", X.magnusCoefficient(3, 1, 0), -1);
        Check.same("aa of [a,b]", X.magnusCoefficient(3, 0, 0), 0);
        Check.same("bc", X.magnusCoefficient(6, 1, 2), 1);
        Check.same("cb", X.magnusCoefficient(6, 2, 1), -1);
        Check.same("ab", X.magnusCoefficient(6, 0, 1), 1 - 2);
        Check.same("aa", X.magnusCoefficient(6, 0, 0), 1);
        Check.same("bb", X.magnusCoefficient(6, 1, 1), 1 - 1);
        FreeGroupCalculator y = Check.loaded("rank 1; set 0 " + "a".repeat(60) + "; set 1 " + "A".repeat(60) + ";");
        Check.same("60 over 2", y.magnusCoefficient(0, 0, 0), 1770);
        Check.same("-60 over 2", y.magnusCoefficient(1, 0, 0), 1830);
    }

    private static void norms() {
        for (int degree = 0; degree <= 4; degree++) {
            Check.same("of the empty word", X.magnusNorm(7, degree), degree == 0 ? 1L : 0L);
            Check.same("of a letter", X.magnusNorm(0, degree), degree < 2 ? 1L : 0L);
            Check.same("of an inverse letter", X.magnusNorm(1, degree), 1L);
        }
        Check.same("degree 1 of ab", X.magnusNorm(2, 1), 2L);
        Check.same("degree 2 of ab", X.magnusNorm(2, 2), 1L);
        Check.same("degree 2 of [a,b]", X.magnusNorm(3, 2), 2L);
        Check.same("degree 3 of [[a,b],a]", X.magnusNorm(4, 3), 4L);
        FreeGroupCalculator y = Check.loaded("rank 4; set 0 " + "A".repeat(60) + "; set 1 dcba;");
        Check.same("62 over 3", y.magnusNorm(0, 3), 37820L);
        Check.same("63 over 4", y.magnusNorm(0, 4), 595665L);
        Check.same("degree 4 of dcba", y.magnusNorm(1, 4), 1L);
        Check.same("degree 3 of dcba", y.magnusNorm(1, 3), 4L);
        Check.same("dc", y.magnusCoefficient(1, 3, 2), 1);
        Check.same("cd", y.magnusCoefficient(1, 2, 3), 0);
        Check.fails("degree -1", IllegalArgumentException.class, () -> X.magnusNorm(0, -1));
        Check.fails("degree 5", IllegalArgumentException.class, () -> X.magnusNorm(0, 5));
        Check.fails("least degree", IllegalArgumentException.class, () -> X.magnusNorm(0, Integer.MIN_VALUE));
        Check.fails("greatest degree", IllegalArgumentException.class, () -> X.magnusNorm(0, Integer.MAX_VALUE));
        Check.noSuchNumber("the register first", () -> X.magnusNorm(8, 5));
    }

    private static void noSuchNumbers() {
        for (int bad : new int[] {-1, 8, Integer.MIN_VALUE, Integer.MAX_VALUE}) {
            Check.noSuchNumber("magnusDegree", () -> X.magnusDegree(bad));
            Check.noSuchNumber("magnusCoefficient", () -> X.magnusCoefficient(bad, 0, 0));
            Check.noSuchNumber("magnusCoefficient", () -> X.magnusCoefficient(0, bad, 0));
            Check.noSuchNumber("magnusCoefficient", () -> X.magnusCoefficient(0, 0, bad));
            Check.noSuchNumber("magnusNorm", () -> X.magnusNorm(bad, 0));
        }
        Check.noSuchNumber("a first generator that the group lacks", () -> X.magnusCoefficient(0, 3, 0));
        Check.noSuchNumber("a second generator that the group lacks", () -> X.magnusCoefficient(0, 0, 3));
    }
}
