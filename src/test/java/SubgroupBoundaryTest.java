import java.util.ArrayList;
import java.util.Arrays;
import java.util.List;

/** The boundary cases of promises 25 to 38: trivial subgroups, the whole group, and the largest graphs. */
public final class SubgroupBoundaryTest {
    private static final int NONE = FreeGroupCalculator.NONE;

    public static void main(String[] args) {
        newObject();
        trivialSubgroups();
        wholeGroups();
        circles();
        circlesInALargerGroup();
        numbersThatDoNotExist();
        largestGraphs();
        largestGraphsOftenMade();
        powersFarBeyondAWord();
        powersThatNeverComeBack();
        membership();
        normality();
        largestIndex();
        inclusion();
        intersectionsOfCircles();
        indexOfIntersections();
        foldingOneAfterTheOther();
        foldingInEachOrder();
        foldingOfEachPair();
        orderOfVertices();
        Check.end();
    }

    private static FreeGroupCalculator generated(int rank, String[] first, String[] second) {
        StringBuilder text = new StringBuilder("rank " + rank + ";");
        for (String word : first) {
            text.append("set 7 ").append(word).append(";join 0 7;");
        }
        for (String word : second) {
            text.append("set 7 ").append(word).append(";join 1 7;");
        }
        return Check.loaded(text.toString());
    }

    private static FreeGroupCalculator generated(int rank, String... words) {
        return generated(rank, words, new String[0]);
    }

    private static void put(FreeGroupCalculator x, int register, String word) {
        Check.put(x, word);
        x.setRegister(register);
    }

    private static void newObject() {
        Check.same("rank of the intersection", new FreeGroupCalculator().intersectionRank(), 0);
        Check.same("index of the intersection", new FreeGroupCalculator().intersectionIndex(), NONE);
        for (int subgroup = 0; subgroup < 2; subgroup++) {
            trivial(new FreeGroupCalculator(), subgroup, 0);
        }
    }

    private static void trivial(FreeGroupCalculator x, int subgroup, int words) {
        Check.same("words", x.generatingWordCount(subgroup), words);
        Check.same("vertices", x.vertexCount(subgroup), 1);
        Check.same("edges", x.edgeCount(subgroup), 0);
        Check.same("rank", x.subgroupRank(subgroup), 0);
        Check.same("index", x.index(subgroup), NONE);
        for (int code = 0; code < 2 * x.groupRank(); code++) {
            Check.same("neighbour", x.neighbour(subgroup, 0, code), NONE);
        }
        put(x, 0, "a");
        put(x, 1, "");
        Check.same("a letter is no element", x.contains(subgroup, 0), false);
        Check.same("the empty word is one", x.contains(subgroup, 1), true);
        Check.same("a letter reaches nothing", x.reachedVertex(subgroup, 0), NONE);
        Check.same("the empty word reaches the base vertex", x.reachedVertex(subgroup, 1), 0);
        Check.same("no power of a letter", x.smallestPower(subgroup, 0), NONE);
        Check.same("the empty word itself", x.smallestPower(subgroup, 1), 1);
        Check.same("normal", x.isNormal(subgroup), true);
        Check.same("contains itself", x.containsSubgroup(subgroup, subgroup), true);
        Check.same("representative", x.representativeLength(subgroup, 0), 0);
        Check.same("its text", x.formatRepresentative(subgroup, 0), 0);
        Check.noSuchNumber("no text", () -> x.formattedCharacter(0));
        Check.noSuchNumber("vertex 1", () -> x.neighbour(subgroup, 1, 0));
        Check.noSuchNumber("vertex 1", () -> x.representativeLength(subgroup, 1));
        Check.noSuchNumber("vertex 1", () -> x.formatRepresentative(subgroup, 1));
        Check.noSuchNumber("a basis word", () -> x.formatBasisWord(subgroup, 0));
        Check.noSuchNumber("a generating word", () -> x.removeGeneratingWord(subgroup, words));
    }

    private static void trivialSubgroups() {
        for (int rank = 1; rank <= 4; rank++) {
            for (int words = 0; words <= 6; words++) {
                String[] empty = new String[words];
                Arrays.fill(empty, words % 2 == 0 ? "1" : "aA");
                trivial(generated(rank, empty), 0, words);
                Check.same("intersection", generated(rank, empty).intersectionRank(), 0);
            }
        }
        FreeGroupCalculator x = generated(2, new String[] {"a", "b"}, new String[] {"1", "1"});
        Check.same("contains the trivial subgroup", x.containsSubgroup(0, 1), true);
        Check.same("is not contained", x.containsSubgroup(1, 0), false);
        Check.same("rank of the intersection", x.intersectionRank(), 0);
        Check.same("index of the intersection", x.intersectionIndex(), NONE);
    }

    private static void wholeGroups() {
        for (int rank = 1; rank <= 4; rank++) {
            String[] letters = {"a", "B", "c", "D"};
            String[] words = Arrays.copyOf(letters, rank);
            FreeGroupCalculator x = generated(rank, words, words);
            Check.same("vertices", x.vertexCount(0), 1);
            Check.same("edges", x.edgeCount(0), rank);
            Check.same("rank", x.subgroupRank(0), rank);
            Check.same("index", x.index(0), 1);
            Check.same("normal", x.isNormal(0), true);
            Check.same("rank of the intersection", x.intersectionRank(), rank);
            Check.same("index of the intersection", x.intersectionIndex(), 1);
            Check.same("each contains the other", x.containsSubgroup(0, 1) && x.containsSubgroup(1, 0), true);
            for (int code = 0; code < 2 * rank; code++) {
                Check.same("neighbour", x.neighbour(0, 0, code), 0);
            }
            for (int i = 0; i < rank; i++) {
                Check.same("basis word", x.formatBasisWord(0, i), 1);
                Check.same("in the order of the labels", x.formattedCharacter(0), (char) ('a' + i));
            }
            Check.noSuchNumber("no basis word more", () -> x.formatBasisWord(0, x.groupRank()));
            put(x, 0, "aaA".repeat(20));
            Check.same("smallest power", x.smallestPower(0, 0), 1);
            x.removeGeneratingWord(0, rank - 1);
            Check.same("a generator is missing", x.index(0), NONE);
            Check.same("normal only if trivial", x.isNormal(0), rank == 1);
        }
    }

    private static void circles() {
        for (int length = 1; length <= 60; length++) {
            FreeGroupCalculator x = generated(1, (length % 2 == 0 ? "a" : "A").repeat(length));
            Check.same("vertices", x.vertexCount(0), length);
            Check.same("edges", x.edgeCount(0), length);
            Check.same("rank", x.subgroupRank(0), 1);
            Check.same("index", x.index(0), length);
            Check.same("normal", x.isNormal(0), true);
            Check.same("farthest vertex", x.representativeLength(0, length - 1), length / 2);
            Check.same("along a", x.neighbour(0, 0, 0), length == 1 ? 0 : 1);
            Check.same("against a", x.neighbour(0, 0, 1), Math.min(2, length - 1));
            Check.same("the basis word", x.formatBasisWord(0, 0), length);
            Check.noSuchNumber("no second one", () -> x.formatBasisWord(0, 1));
            Check.noSuchNumber("vertex behind the last", () -> x.neighbour(0, x.vertexCount(0), 0));
            put(x, 0, "a");
            Check.same("smallest power of a letter", x.smallestPower(0, 0), length);
            for (int size : new int[] {59, 60}) {
                put(x, 0, "A".repeat(size));
                Check.same("smallest power of " + size, x.smallestPower(0, 0), length / divisor(length, size));
                Check.same("element", x.contains(0, 0), size % length == 0);
            }
        }
    }

    private static int divisor(int one, int other) {
        return other == 0 ? one : divisor(other, one % other);
    }

    private static void circlesInALargerGroup() {
        for (int length = 1; length <= 60; length++) {
            FreeGroupCalculator x = generated(2, "a".repeat(length));
            Check.same("vertices", x.vertexCount(0), length);
            Check.same("infinite index", x.index(0), NONE);
            Check.same("closed at every vertex but of infinite index", x.isNormal(0), false);
            Check.same("no edge", x.neighbour(0, length - 1, 2), NONE);
            Check.same("no edge", x.neighbour(0, length - 1, 3), NONE);
            Check.same("intersection with the trivial subgroup", x.intersectionIndex(), NONE);
        }
        for (int rank = 1; rank < 4; rank++) {
            String all = "abcd".substring(0, rank);
            FreeGroupCalculator x = generated(rank + 1, all.split(""));
            Check.same("every letter but the last", x.index(0), NONE);
            Check.same("is not normal", x.isNormal(0), false);
        }
    }

    private static void numbersThatDoNotExist() {
        FreeGroupCalculator x = generated(2, new String[] {"ab"}, new String[] {"aaaa"});
        for (int subgroup = 0; subgroup < 2; subgroup++) {
            int one = subgroup;
            int vertices = x.vertexCount(one);
            Check.same("the last vertex", x.representativeLength(one, vertices - 1) > 0, true);
            Check.same("the last letter", x.neighbour(one, vertices - 1, 2), one == 0 ? 0 : NONE);
            for (int bad : new int[] {vertices, vertices + 1, 354, 355, -1, Integer.MAX_VALUE, Integer.MIN_VALUE}) {
                Check.noSuchNumber("vertex " + bad, () -> x.neighbour(one, bad, 0));
                Check.noSuchNumber("vertex " + bad, () -> x.representativeLength(one, bad));
                Check.noSuchNumber("vertex " + bad, () -> x.formatRepresentative(one, bad));
                Check.noSuchNumber("remaining edge " + bad, () -> x.formatBasisWord(one, bad));
            }
            for (int bad : new int[] {4, 5, 6, 7, 8, -1, Integer.MAX_VALUE, Integer.MIN_VALUE}) {
                Check.noSuchNumber("letter " + bad, () -> x.neighbour(one, 0, bad));
            }
        }
        for (int bad : new int[] {-1, 2, Integer.MAX_VALUE, Integer.MIN_VALUE}) {
            Check.noSuchNumber("subgroup", () -> x.neighbour(bad, 0, 0));
            Check.noSuchNumber("subgroup", () -> x.containsSubgroup(bad, 1));
            Check.noSuchNumber("subgroup", () -> x.containsSubgroup(1, bad));
            Check.noSuchNumber("subgroup", () -> x.addGeneratingWord(bad, 0));
            Check.noSuchNumber("subgroup", () -> x.removeGeneratingWord(bad, 0));
        }
    }

    // ---- the largest graphs

    // Twelve ends at the base vertex share its eight letters: four foldings are the fewest.
    private static String[] sixLongWords() {
        return new String[] {
            "a" + "bc".repeat(29) + "a", "b" + "ca".repeat(29) + "b", "c" + "ad".repeat(29) + "c",
            "d" + "ab".repeat(29) + "d", "aa" + "c".repeat(56) + "aB", "cc" + "b".repeat(56) + "cD"
        };
    }

    private static void largestGraphs() {
        FreeGroupCalculator x = generated(4, sixLongWords());
        Check.same("vertices", x.vertexCount(0), 1 + 6 * 59 - 4);
        Check.same("edges", x.edgeCount(0), 6 * 60 - 4);
        Check.same("rank", x.subgroupRank(0), 6);
        Check.same("farthest vertex", x.representativeLength(0, 350), 30);
        Check.noSuchNumber("vertex behind the last", () -> x.representativeLength(0, 351));
        Check.noSuchNumber("basis word behind the last", () -> x.formatBasisWord(0, 6));
        Check.same("infinite index", x.index(0), NONE);
        Check.same("not normal", x.isNormal(0), false);
        Check.same("intersection with the trivial subgroup", x.intersectionRank(), 0);
        for (int i = 0; i < 6; i++) {
            Check.put(x, sixLongWords()[i]);
            x.setRegister(0);
            Check.same("generating word", x.contains(0, 0), true);
            x.addGeneratingWord(1, 0);
        }
        Check.same("equal subgroups", x.containsSubgroup(0, 1) && x.containsSubgroup(1, 0), true);
        Check.same("their intersection", x.intersectionRank(), 6);
        for (int i = 0; i < 6; i++) {
            int length = x.formatBasisWord(0, i);
            Check.put(x, Check.formatted(x, length));
            Check.same("a basis word has at most 60 letters", x.setRegister(0), length);
            Check.same("a basis word is an element", x.contains(1, 0), true);
        }
    }

    private static void largestGraphsOftenMade() {
        FreeGroupCalculator x = generated(4, sixLongWords());
        for (int i = 0; i < 40; i++) {
            Check.same("vertices", x.vertexCount(0), 351);
            Check.same("words", x.removeGeneratingWord(0, 0), 5);
            Check.same("edges of five words", x.edgeCount(0), x.vertexCount(0) + 4);
            Check.same("words", x.addGeneratingWord(0, 0), 6);
            Check.same("rank with an empty word", x.subgroupRank(0), 5);
            x.undo();
            x.undo();
        }
    }

    // The product of all six words is a power of a: a walk on a alone passes through each of their paths.
    private static void powersFarBeyondAWord() {
        String[] words = {
            "a".repeat(59) + "b", "B" + "a".repeat(58) + "c", "C" + "a".repeat(58) + "d", "D" + "a".repeat(57) + "bb",
            "BB" + "a".repeat(56) + "cc", "CC" + "a".repeat(58)
        };
        int due = 59 + 58 + 58 + 57 + 56 + 58;
        FreeGroupCalculator x = generated(4, words);
        put(x, 0, "a");
        Check.same("a power with 346 letters", x.smallestPower(0, 0), due);
        put(x, 0, "A");
        Check.same("of the inverse", x.smallestPower(0, 0), due);
        put(x, 0, "aa");
        Check.same("of the square", x.smallestPower(0, 0), due / 2);
        put(x, 0, "aaa");
        Check.same("of the cube", x.smallestPower(0, 0), due);
        Check.same("rank", x.subgroupRank(0), 6);
        x.removeGeneratingWord(0, 5);
        Check.same("not without the last word", x.smallestPower(0, 0), NONE);
    }

    private static void powersThatNeverComeBack() {
        FreeGroupCalculator x = generated(2, "baaaB", "bb");
        String[] words = {"a", "ab", "ba", "bab", "baB", "baBa", "b", "BB", "bAB", "bbaBB"};
        int[] due = {NONE, NONE, NONE, NONE, 3, NONE, 2, 1, 3, NONE};
        for (int i = 0; i < words.length; i++) {
            put(x, 0, words[i]);
            Check.same("smallest power of " + words[i], x.smallestPower(0, 0), due[i]);
            Check.same("element " + words[i], x.contains(0, 0), due[i] == 1);
        }
    }

    private static void membership() {
        for (int length = 0; length <= 60; length++) {
            FreeGroupCalculator x = generated(2, "a".repeat(30) + "b".repeat(30));
            put(x, 0, "a".repeat(Math.min(length, 30)) + "b".repeat(Math.max(length - 30, 0)));
            Check.same("closed only when empty or whole", x.contains(0, 0), length == 0 || length == 60);
            Check.same("reaches a vertex", x.reachedVertex(0, 0) != NONE, true);
            Check.same("reaches the base vertex", x.reachedVertex(0, 0) == 0, length == 0 || length == 60);
            if (length > 30 && length < 60) {
                put(x, 0, "a".repeat(30) + "b".repeat(length - 31) + "a");
                Check.same("the last edge is missing", x.reachedVertex(0, 0), NONE);
                Check.same("no element", x.contains(0, 0), false);
            }
        }
    }

    // ---- normality, inclusion, intersection

    private static void normality() {
        Check.same("one loop, another letter missing", generated(2, "a").isNormal(0), false);
        Check.same("one loop, first letter missing", generated(2, "b").isNormal(0), false);
        Check.same("one loop", generated(1, "a").isNormal(0), true);
        Check.same("index 2", generated(2, "aa", "b", "abA").isNormal(0), true);
        Check.same("a missing edge at the last vertex", generated(2, "aa", "b").isNormal(0), false);
        Check.same("index 3", generated(2, "aaa", "b", "abA", "aabAA").isNormal(0), true);
        Check.same("open at one vertex of three", generated(2, "a", "bb", "baaB", "babAB").isNormal(0), false);
        Check.same("an empty word beside", generated(2, "aa", "1", "b", "abA").isNormal(0), true);
        Check.same("only empty words", generated(2, "1", "aA").isNormal(0), true);
        FreeGroupCalculator x = generated(2, new String[] {"a", "b"}, new String[] {"bb"});
        Check.same("each subgroup by its own words", x.isNormal(0) && !x.isNormal(1), true);
    }

    // A subgroup of index n in the group of rank 2 has the rank n + 1: six words make the index 5.
    private static void largestIndex() {
        String[] first = {"aaaaa", "b", "abA", "aabAA", "aaabAAA", "aaaabAAAA"};
        String[] second = {"bbbbb", "a", "baB", "bbaBB", "bbbaBBB", "bbbbaBBBB"};
        FreeGroupCalculator x = generated(2, first, second);
        Check.same("index", x.index(0), 5);
        Check.same("rank", x.subgroupRank(0), 6);
        Check.same("normal", x.isNormal(0) && x.isNormal(1), true);
        Check.same("neither contains the other", x.containsSubgroup(0, 1) || x.containsSubgroup(1, 0), false);
        Check.same("index of the intersection", x.intersectionIndex(), 25);
        Check.same("rank of the intersection", x.intersectionRank(), 26);
        x.removeGeneratingWord(1, 5);
        Check.same("one edge less", x.index(1), NONE);
        Check.same("no index of the intersection", x.intersectionIndex(), NONE);
        Check.same("its rank", x.intersectionRank(), 21);
        Check.same("not normal", x.isNormal(1), false);
    }

    private static void inclusion() {
        String[] none = {};
        String[] a = {"a"};
        Check.same("closed at the base vertex only",
                generated(2, new String[] {"b", "aBBA"}, new String[] {"b"}).containsSubgroup(0, 1), true);
        Check.same("closed at another vertex only",
                generated(2, new String[] {"abA"}, new String[] {"b"}).containsSubgroup(0, 1), false);
        Check.same("none of none", generated(1, none, none).containsSubgroup(0, 1), true);
        Check.same("none of one", generated(1, a, none).containsSubgroup(0, 1), true);
        Check.same("one of none", generated(1, none, a).containsSubgroup(0, 1), false);
        Check.same("one of one", generated(1, a, a).containsSubgroup(0, 1), true);
        String[] six = {"aa", "bb", "abab", "aabb", "baab", "abba"};
        String[] five = {"aa", "bb", "abab", "aabb", "baab"};
        Check.same("all of six", generated(2, five, six).containsSubgroup(0, 1), false);
        Check.same("all of five", generated(2, six, five).containsSubgroup(0, 1), true);
        String[] last = {"aa", "aa", "aa", "aa", "aa", "aaa"};
        Check.same("the sixth word counts", generated(1, new String[] {"aa"}, last).containsSubgroup(0, 1), false);
    }

    private static void intersectionsOfCircles() {
        for (int length = 1; length <= 60; length++) {
            FreeGroupCalculator x = generated(1, new String[] {"a".repeat(length)}, new String[] {"a".repeat(60)});
            int due = 60 * length / divisor(60, length);
            Check.same("least common multiple", x.intersectionIndex(), due);
            Check.same("rank", x.intersectionRank(), 1);
            Check.same("rank again", x.intersectionRank(), 1);
            x.addGeneratingWord(1, 0);
            Check.same("an empty word changes nothing", x.intersectionIndex(), due);
        }
        FreeGroupCalculator y = generated(1, new String[] {"a".repeat(59)}, new String[] {"a".repeat(60)});
        Check.same("59 times 60", y.intersectionIndex(), 3540);
        y.addGeneratingWord(0, 7);
        Check.same("made anew", y.intersectionIndex(), 60);
        y.undo();
        Check.same("made anew", y.intersectionIndex(), 3540);
    }

    private static void indexOfIntersections() {
        String[] finite = {"aa", "b", "abA"};
        String[] infinite = {"aa", "b"};
        Check.same("both finite", generated(2, finite, finite).intersectionIndex(), 2);
        Check.same("the second infinite", generated(2, finite, infinite).intersectionIndex(), NONE);
        Check.same("the first infinite", generated(2, infinite, finite).intersectionIndex(), NONE);
        Check.same("both infinite", generated(2, infinite, infinite).intersectionIndex(), NONE);
        Check.same("rank, the second infinite", generated(2, finite, infinite).intersectionRank(), 2);
        Check.same("rank, the first infinite", generated(2, infinite, finite).intersectionRank(), 2);
        Check.same("nothing in common", generated(2, new String[] {"a"}, new String[] {"b"}).intersectionRank(), 0);
        Check.same("a path in common", generated(2, new String[] {"aba"}, new String[] {"abb"}).intersectionRank(), 0);
    }

    // The pairs of vertices that one folding identifies mean nothing to the next one.
    private static void foldingOneAfterTheOther() {
        String[] folded = {"bbaBB", "baB", "a", "bbbbb", "aabaa", "ababababab"};
        String[] open = {"abABcdCDabABcdCD"};
        FreeGroupCalculator x = generated(4, folded, open);
        Check.same("folded first", x.index(0), NONE);
        Check.same("then not folded", x.vertexCount(1), 16);
        FreeGroupCalculator y = generated(4, folded, open);
        Check.same("not folded first", y.vertexCount(1), 16);
        Check.same("then folded", y.vertexCount(0), x.vertexCount(0));
        Check.same("edges", y.edgeCount(0), x.edgeCount(0));
        // Each word folds the former ones further: 60, 30, 15, 5 and 1 vertices.
        int[] lengths = {60, 30, 45, 50, 59};
        int[] due = {60, 30, 15, 5, 1};
        FreeGroupCalculator z = new FreeGroupCalculator();
        for (int i = 0; i < lengths.length; i++) {
            put(z, 0, "a".repeat(lengths[i]));
            z.addGeneratingWord(0, 0);
            Check.same("a circle folded onto a circle", z.vertexCount(0), due[i]);
            Check.same("its edges", z.edgeCount(0), due[i]);
        }
    }

    // "The result does not depend on the order of the foldings": nor on the order or the direction of the words.
    private static void foldingInEachOrder() {
        String[][] lists = {
            {"abab", "aabb", "baab", "bbaa"}, {"aab", "abba", "bAbA", "aBBa"}, {"aaBaa", "bab", "abbA", "BBB"},
            {"abABab", "bbbb", "aBaB", "AbbA"}, {"abcabc", "cba", "aCa", "bbcc"}, {"abaabaab", "ababa", "aabbaa", "B"}
        };
        for (String[] words : lists) {
            String due = graph(generated(3, words));
            for (int order = 0; order < 256; order++) {
                int[] places = {order / 64, order / 16 % 4, order / 4 % 4, order % 4};
                if (Arrays.stream(places).distinct().count() == 4) {
                    String[] others = new String[4];
                    for (int i = 0; i < 4; i++) {
                        String word = words[places[i]];
                        others[i] = (order + i) % 3 == 0 ? inverse(word) : word;
                    }
                    Check.same("graph of " + String.join(" ", others), graph(generated(3, others)), due);
                }
            }
        }
    }

    // Every pair of reduced words of one to three letters, compared with the plain model.
    private static void foldingOfEachPair() {
        List<String> words = new ArrayList<>(List.of("a", "A", "b", "B"));
        for (int i = 0; words.get(i).length() < 3; i++) {
            for (char letter : "aAbB".toCharArray()) {
                if (words.get(i).charAt(words.get(i).length() - 1) != (letter ^ 32)) {
                    words.add(words.get(i) + letter);
                }
            }
        }
        for (String first : words) {
            for (String second : words) {
                PlainModel model = new PlainModel();
                put(model, first, second);
                FreeGroupCalculator x = generated(2, first, second);
                Check.same("edges of " + first + " " + second, x.edgeCount(0), model.edgeCount(0));
                Check.same("vertices of " + first + " " + second, x.vertexCount(0), model.vertexCount(0));
                for (int vertex = 0; vertex < Math.min(x.vertexCount(0), model.vertexCount(0)); vertex++) {
                    for (int code = 0; code < 4; code++) {
                        Check.same("neighbour in " + first + " " + second, x.neighbour(0, vertex, code),
                                model.neighbour(0, vertex, code));
                    }
                }
            }
        }
    }

    private static void put(PlainModel model, String... words) {
        for (String word : words) {
            byte[] bytes = word.getBytes();
            model.append(Check.four(bytes, 0), 0, 0, 0, 0);
            model.truncate(bytes.length);
            model.setRegister(0);
            model.addGeneratingWord(0, 0);
        }
    }

    private static String inverse(String word) {
        StringBuilder result = new StringBuilder();
        for (char letter : word.toCharArray()) {
            result.insert(0, (char) (letter ^ 32));
        }
        return result.toString();
    }

    private static String graph(FreeGroupCalculator x) {
        StringBuilder text = new StringBuilder(x.edgeCount(0) + " edges:");
        for (int vertex = 0; vertex < x.vertexCount(0); vertex++) {
            for (int code = 0; code < 6; code++) {
                text.append(' ').append(x.neighbour(0, vertex, code));
            }
        }
        return text.toString();
    }

    // The neighbours of the base vertex are numbered along a, A, b, B, c, C, d and D.
    private static void orderOfVertices() {
        FreeGroupCalculator x = generated(4, "dDab", "Acb", "bdBc", "BaD", "CAd");
        int next = 1;
        boolean[] isReached = new boolean[x.vertexCount(0)];
        isReached[0] = true;
        for (int vertex = 0; vertex < x.vertexCount(0); vertex++) {
            for (int code = 0; code < 8; code++) {
                int there = x.neighbour(0, vertex, code);
                if (there != NONE && !isReached[there]) {
                    Check.same("number of the next vertex", there, next);
                    Check.same("its representative is one longer", x.representativeLength(0, there),
                            x.representativeLength(0, vertex) + 1);
                    isReached[there] = true;
                    next++;
                }
                Check.same("the way back", there == NONE ? vertex : x.neighbour(0, there, code ^ 1), vertex);
            }
        }
        Check.same("all vertices are reached", next, x.vertexCount(0));
    }
}
