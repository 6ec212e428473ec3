/** Promises 25 to 38: graphs of subgroups and what they tell. */
public final class SubgroupsTest {
    private static final int NONE = FreeGroupCalculator.NONE;
    // Subgroup 0 is the kernel of the map onto the integers modulo 2 that counts the letters.
    private static final FreeGroupCalculator EVEN = Check.loaded("rank 2; set 0 aa; set 1 ab; set 2 aB; set 3 a;"
            + "set 4 aba; set 5 abba; set 6 1; set 7 aab; join 0 0; join 0 1; join 0 2; join 1 0; join 1 4; join 1 6;");

    public static void main(String[] args) {
        graphs();
        foldedGraphs();
        ranksAndIndices();
        members();
        powers();
        normality();
        inclusion();
        intersections();
        representatives();
        noSuchNumbers();
        Check.end();
    }

    private static void graphs() {
        FreeGroupCalculator x = new FreeGroupCalculator();
        Check.same("no words", x.generatingWordCount(1), 0);
        Check.same("base vertex", x.vertexCount(0), 1);
        Check.same("no edges", x.edgeCount(0), 0);
        Check.same("no neighbour", x.neighbour(0, 0, 3), NONE);
        Check.same("words", EVEN.generatingWordCount(0), 3);
        Check.same("words, the empty one too", EVEN.generatingWordCount(1), 3);
        Check.same("vertices", EVEN.vertexCount(0), 2);
        Check.same("edges", EVEN.edgeCount(0), 4);
        for (int code = 0; code < 4; code++) {
            Check.same("neighbour of the base vertex", EVEN.neighbour(0, 0, code), 1);
            Check.same("neighbour of the other vertex", EVEN.neighbour(0, 1, code), 0);
        }
        FreeGroupCalculator y = Check.loaded("rank 3; set 0 aB; set 1 ca; join 1 0; join 1 1;");
        Check.same("along a", y.neighbour(1, 0, 0), 1);
        Check.same("against a: the third in the order of codes", y.neighbour(1, 0, 1), 2);
        Check.same("along b", y.neighbour(1, 0, 2), 1);
        Check.same("against b", y.neighbour(1, 1, 3), 0);
        Check.same("along c", y.neighbour(1, 0, 4), 2);
        Check.same("against c", y.neighbour(1, 2, 5), 0);
        Check.same("no edge", y.neighbour(1, 1, 0), NONE);
        Check.same("vertices", y.vertexCount(1), 3);
        Check.noSuchNumber("a vertex behind the last one", () -> y.neighbour(1, 3, 0));
        Check.noSuchNumber("a letter that the group lacks", () -> y.neighbour(1, 0, 6));
    }

    private static void foldedGraphs() {
        FreeGroupCalculator x = Check.loaded("rank 2; set 0 abaB; set 1 abaB; set 2 bAbA; set 3 bABA; join 0 0;"
                + "join 0 1; join 0 3; join 1 0; join 1 2;");
        Check.same("equal and inverse words", x.vertexCount(0), 4);
        Check.same("their edges", x.edgeCount(0), 4);
        Check.same("their rank", x.subgroupRank(0), 1);
        FreeGroupCalculator y = Check.loaded("rank 1; set 0 " + "a".repeat(60) + "; set 1 " + "A".repeat(45)
                + "; join 0 0; join 0 1;");
        Check.same("greatest common divisor", y.vertexCount(0), 15);
        Check.same("its edges", y.edgeCount(0), 15);
        StringBuilder text = new StringBuilder("rank 4;");
        String[] heads = {"a", "b", "c", "d"};
        String[] tails = {"a", "b", "c", "d"};
        for (int i = 0; i < 4; i++) {
            text.append("set ").append(i).append(' ').append(heads[i]).append("cd".repeat(29)).append(tails[i])
                    .append("; join 0 ").append(i).append(';');
        }
        FreeGroupCalculator z = Check.loaded(text.toString());
        Check.same("hardly folded", z.vertexCount(0), 4 * 59 + 1);
        Check.same("its rank", z.subgroupRank(0), 4);
        FreeGroupCalculator v = Check.loaded("rank 3; set 0 a" + "b".repeat(58) + "a; set 1 A" + "b".repeat(58)
                + "c; set 2 b" + "c".repeat(58) + "b; set 3 B" + "c".repeat(58) + "a; set 4 c" + "a".repeat(58)
                + "c; set 5 C" + "a".repeat(58)
                + "b; join 0 0; join 0 1; join 0 2; join 0 3; join 0 4; join 0 5;");
        Check.same("six words of 60 letters", v.vertexCount(0), 349);
        FreeGroupCalculator w = Check.loaded("rank 2; set 0 baB; set 1 bbaBB; set 2 bbbaBBB; join 0 0; join 0 1;"
                + "join 0 2;");
        Check.same("folded stems", w.vertexCount(0), 4);
        Check.same("stems and loops", w.edgeCount(0), 6);
        Check.same("one loop each", w.neighbour(0, 3, 1), 3);
    }

    private static void ranksAndIndices() {
        Check.same("rank", EVEN.subgroupRank(0), 3);
        Check.same("index", EVEN.index(0), 2);
        FreeGroupCalculator x = Check.loaded("rank 2; set 0 ab; set 1 a; set 2 b; join 1 0;");
        Check.same("rank 0", x.subgroupRank(0), 0);
        Check.same("rank 1", x.subgroupRank(1), 1);
        Check.same("infinite index of rank 0", x.index(0), NONE);
        Check.same("infinite index", x.index(1), NONE);
        x.addGeneratingWord(1, 1);
        Check.same("the whole group", x.index(1), 1);
        Check.same("its rank", x.subgroupRank(1), 2);
        x.addGeneratingWord(0, 7);
        Check.same("the empty word generates nothing", x.subgroupRank(0), 0);
        Check.same("index in rank 1", Check.loaded("rank 1; set 0 aaa; join 0 0;").index(0), 3);
    }

    private static void members() {
        Check.same("even word", EVEN.contains(0, 5), true);
        Check.same("odd word", EVEN.contains(0, 4), false);
        Check.same("empty word", EVEN.contains(1, 6), true);
        Check.same("edge missing", EVEN.contains(1, 7), false);
        Check.same("open path", EVEN.contains(1, 1), false);
        Check.same("reached base", EVEN.reachedVertex(0, 5), 0);
        Check.same("reached other", EVEN.reachedVertex(0, 4), 1);
        Check.same("reached along an unfinished path", EVEN.reachedVertex(1, 3), 1);
        Check.same("edge missing", EVEN.reachedVertex(1, 7), NONE);
        Check.same("empty path", EVEN.reachedVertex(1, 6), 0);
        // The vertices are 0, 1 and 2; a fixes 0 and exchanges the others, b exchanges 0 and 1 and fixes 2.
        FreeGroupCalculator x = Check.loaded("rank 2; set 0 a; set 1 bb; set 2 baaB; set 3 babAB; join 1 0; join 1 1;"
                + "join 1 2; join 1 3; set 0 baB; set 1 Bab; set 2 bAba; set 3 bbb; set 4 BAB; set 5 babaB; set 6 abA;");
        int[] due = {2, 2, 1, 1, 2, 0, 2, 0};
        for (int register = 0; register < 8; register++) {
            Check.same("reached by the register " + register, x.reachedVertex(1, register), due[register]);
            Check.same("contains the register " + register, x.contains(1, register), due[register] == 0);
        }
    }

    private static void powers() {
        Check.same("element", EVEN.smallestPower(0, 1), 1);
        Check.same("square", EVEN.smallestPower(0, 3), 2);
        Check.same("empty word", EVEN.smallestPower(1, 6), 1);
        Check.same("no power", EVEN.smallestPower(1, 2), NONE);
        FreeGroupCalculator x = Check.loaded("rank 2; set 0 baaaaaB; set 1 baB; set 2 bAAB; set 3 a; set 4 b; set 5 ba;"
                + "join 0 0;");
        Check.same("reduced power of a conjugate", x.smallestPower(0, 1), 5);
        Check.same("of its square", x.smallestPower(0, 2), 5);
        Check.same("missing before the core", x.smallestPower(0, 3), NONE);
        Check.same("missing in the core", x.smallestPower(0, 4), NONE);
        Check.same("reaches a vertex, no power", x.smallestPower(0, 5), NONE);
        FreeGroupCalculator y = Check.loaded("rank 1; set 0 " + "a".repeat(60) + "; set 1 A; join 1 0;");
        Check.same("the last vertex", y.smallestPower(1, 1), 60);
        Check.same("trivial subgroup", y.smallestPower(0, 1), NONE);
    }

    private static void normality() {
        Check.same("kernel", EVEN.isNormal(0), true);
        Check.same("infinite index", EVEN.isNormal(1), false);
        // The vertices are 0, 1 and 2; a fixes 0 and exchanges the others, b exchanges 0 and 1.
        FreeGroupCalculator x = Check.loaded("rank 2; set 0 a; set 1 bb; set 2 baaB; set 3 babAB; join 1 0; join 1 1;"
                + "join 1 2; join 1 3; set 7 1; join 1 7;");
        Check.same("rank 0", x.isNormal(0), true);
        Check.same("index 3", x.index(1), 3);
        Check.same("a is open at the vertex 1", x.isNormal(1), false);
        FreeGroupCalculator y = Check.loaded("rank 2; set 0 aa; set 1 b; set 2 abA; join 0 0; join 0 1; join 0 2;"
                + "join 1 0; join 1 1;");
        Check.same("index 2", y.isNormal(0), true);
        Check.same("rank above 0, infinite index", y.isNormal(1), false);
        y.addGeneratingWord(0, 7);
        Check.same("an empty generating word", y.isNormal(0), true);
        // The same subgroup of index 3, but every word except a is closed at each vertex.
        FreeGroupCalculator z = Check.loaded("rank 2; set 0 a; set 1 bb; set 2 baaB; set 3 babABa; join 1 0; join 1 1;"
                + "join 1 2; join 1 3; join 0 1; join 0 2; join 0 3; join 0 0;");
        Check.same("index 3", z.index(1), 3);
        Check.same("only the first word is open elsewhere", z.isNormal(1), false);
        Check.same("only the last word is open elsewhere", z.isNormal(0), false);
        // The vertices are the corners of a square; a is a reflection that moves 0 to 1, its opposite corner, and b is
        // the rotation. The words are closed at 0 and 1, and some of them are open at the other corners.
        FreeGroupCalculator v = Check.loaded("rank 2; set 0 aa; set 1 baB; set 2 Bab; set 3 bbA; set 4 abb; set 5 aba;"
                + "join 0 0; join 0 1; join 0 2; join 0 3; join 0 4;");
        Check.same("index 4", v.index(0), 4);
        Check.same("the opposite corner", v.neighbour(0, 0, 0), 1);
        Check.same("another corner", v.reachedVertex(0, 5), 3);
        Check.same("open at the last two vertices", v.isNormal(0), false);
        // Another square: a exchanges neighbours, b exchanges 0 and 2, which are opposite corners.
        FreeGroupCalculator u = Check.loaded("rank 2; set 0 aa; set 1 bb; set 2 abA; set 3 baaB; set 4 babAB;"
                + "join 0 0; join 0 1; join 0 2; join 0 3; join 0 4;");
        Check.same("index 4", u.index(0), 4);
        Check.same("the opposite corner", u.neighbour(0, 0, 2), 2);
        Check.same("open at the vertices 1 and 3", u.isNormal(0), false);
        FreeGroupCalculator w = Check.loaded("rank 1; set 0 aa; set 1 a; join 0 0; join 0 1; join 1 0; join 1 1;");
        w.removeGeneratingWord(0, 1);
        Check.same("without the removed word", w.isNormal(0), true);
    }

    private static void inclusion() {
        Check.same("contains itself", EVEN.containsSubgroup(0, 0), true);
        Check.same("contains the other", EVEN.containsSubgroup(0, 1), false);
        Check.same("is contained", EVEN.containsSubgroup(1, 0), false);
        FreeGroupCalculator x = Check.loaded("rank 2; set 0 aa; set 1 aaaaaa; set 2 b; join 0 0; join 0 2; join 1 1;");
        Check.same("contains a part", x.containsSubgroup(0, 1), true);
        Check.same("is not contained", x.containsSubgroup(1, 0), false);
        FreeGroupCalculator y = Check.loaded("rank 2; set 0 a; join 0 0;");
        Check.same("contains the trivial one", y.containsSubgroup(0, 1), true);
        Check.same("the trivial one contains", y.containsSubgroup(1, 0), false);
        y.removeGeneratingWord(0, 0);
        Check.same("without the removed word", y.containsSubgroup(1, 0), true);
        FreeGroupCalculator z = Check.loaded("rank 2; set 0 aa; set 1 b; join 0 0; join 1 0; join 1 1;");
        Check.same("the last word is looked at", z.containsSubgroup(0, 1), false);
    }

    private static void intersections() {
        FreeGroupCalculator x = Check.loaded("rank 1; set 0 " + "a".repeat(60) + "; set 1 " + "a".repeat(59)
                + "; join 0 0; join 1 1;");
        Check.same("rank", x.intersectionRank(), 1);
        Check.same("least common multiple", x.intersectionIndex(), 3540);
        x.removeGeneratingWord(1, 0);
        Check.same("with the trivial subgroup", x.intersectionRank(), 0);
        Check.same("infinite index", x.intersectionIndex(), NONE);
        FreeGroupCalculator y = Check.loaded("rank 2; set 0 a; set 1 bb; set 2 baB; set 3 b; set 4 aa; set 5 abA;"
                + "join 0 0; join 0 1; join 0 2; join 1 3; join 1 4; join 1 5;");
        Check.same("two subgroups of index 2", y.intersectionIndex(), 4);
        Check.same("rank by Schreier's formula", y.intersectionRank(), 5);
        Check.same("infinite index on one side", EVEN.intersectionIndex(), NONE);
        Check.same("rank on infinite index", EVEN.intersectionRank(), 3);
        FreeGroupCalculator z = Check.loaded("rank 2; set 0 aab; set 1 aaB; join 0 0; join 1 1;");
        Check.same("a common beginning only", z.intersectionRank(), 0);
        Check.same("whole group", Check.loaded("rank 1; set 0 a; join 0 0; join 1 0;").intersectionIndex(), 1);
    }

    private static void representatives() {
        Check.same("base vertex", EVEN.representativeLength(0, 0), 0);
        Check.same("other vertex", EVEN.representativeLength(0, 1), 1);
        FreeGroupCalculator x = Check.loaded("rank 1; set 0 aaaaa; join 1 0;");
        int[] due = {0, 1, 1, 2, 2};
        for (int i = 0; i < due.length; i++) {
            Check.same("in a circle", x.representativeLength(1, i), due[i]);
        }
        Check.noSuchNumber("vertex behind", () -> x.representativeLength(1, 5));
        Check.noSuchNumber("vertex before", () -> x.representativeLength(1, -1));
    }

    private static void noSuchNumbers() {
        for (int bad : new int[] {-1, 2, Integer.MIN_VALUE, Integer.MAX_VALUE}) {
            Check.noSuchNumber("generatingWordCount", () -> EVEN.generatingWordCount(bad));
            Check.noSuchNumber("vertexCount", () -> EVEN.vertexCount(bad));
            Check.noSuchNumber("edgeCount", () -> EVEN.edgeCount(bad));
            Check.noSuchNumber("neighbour", () -> EVEN.neighbour(bad, 0, 0));
            Check.noSuchNumber("neighbour", () -> EVEN.neighbour(0, bad, 0));
            Check.noSuchNumber("subgroupRank", () -> EVEN.subgroupRank(bad));
            Check.noSuchNumber("index", () -> EVEN.index(bad));
            Check.noSuchNumber("contains", () -> EVEN.contains(bad, 0));
            Check.noSuchNumber("reachedVertex", () -> EVEN.reachedVertex(bad, 0));
            Check.noSuchNumber("smallestPower", () -> EVEN.smallestPower(bad, 0));
            Check.noSuchNumber("isNormal", () -> EVEN.isNormal(bad));
            Check.noSuchNumber("containsSubgroup", () -> EVEN.containsSubgroup(bad, 0));
            Check.noSuchNumber("containsSubgroup", () -> EVEN.containsSubgroup(0, bad));
            Check.noSuchNumber("representativeLength", () -> EVEN.representativeLength(bad, 0));
        }
        for (int bad : new int[] {-1, 8, Integer.MIN_VALUE, Integer.MAX_VALUE}) {
            Check.noSuchNumber("letter", () -> EVEN.neighbour(0, 0, bad));
            Check.noSuchNumber("contains", () -> EVEN.contains(0, bad));
            Check.noSuchNumber("reachedVertex", () -> EVEN.reachedVertex(0, bad));
            Check.noSuchNumber("smallestPower", () -> EVEN.smallestPower(0, bad));
        }
    }
}
