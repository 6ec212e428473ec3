import java.util.ArrayDeque;
import java.util.ArrayList;
import java.util.Arrays;
import java.util.Deque;
import java.util.HashMap;
import java.util.LinkedHashMap;
import java.util.List;
import java.util.Map;
import java.util.NoSuchElementException;
import java.util.regex.Matcher;
import java.util.regex.Pattern;

/**
 * The document's sentences once more, written with texts, maps and no care for time or room, so that the class can
 * be compared with it. It shares no code with the class.
 */
public final class PlainModel {
    private static final String LETTERS = "aAbBcCdD";

    private record Edge(int from, int label, int to) {
    }

    private static final class Memory {
        final String[] registers = new String[8];
        final List<List<String>> subgroups = new ArrayList<>();

        Memory() {
            Arrays.fill(registers, "");
            subgroups.add(new ArrayList<>());
            subgroups.add(new ArrayList<>());
        }

        Memory(Memory other) {
            System.arraycopy(other.registers, 0, registers, 0, 8);
            subgroups.add(new ArrayList<>(other.subgroups.get(0)));
            subgroups.add(new ArrayList<>(other.subgroups.get(1)));
        }
    }

    private static final class TextError extends Exception {
        private static final long serialVersionUID = 1L;
        final int kind;
        final int position;

        TextError(int kind, int position) {
            this.kind = kind;
            this.position = position;
        }
    }

    private record Token(String text, int position) {
    }

    /** A folded graph: by vertex and letter the other vertex, and by vertex its representative. */
    private static final class Folded {
        final List<Map<Character, Integer>> neighbours = new ArrayList<>();
        final List<String> representatives = new ArrayList<>();
        final List<Edge> remaining = new ArrayList<>();
        int edges;

        int walk(int start, String word) {
            int at = start;
            for (char letter : word.toCharArray()) {
                Integer next = neighbours.get(at).get(letter);
                if (next == null) {
                    return -1;
                }
                at = next;
            }
            return at;
        }
    }

    private final StringBuilder input = new StringBuilder();
    private int rank = 2;
    private Memory memory = new Memory();
    private Memory saved;
    private final Deque<Memory> undone = new ArrayDeque<>();
    private int errorKind = 0;
    private int errorPosition = -1;
    private String formatted = "";
    private final Map<List<String>, Folded> folded = new HashMap<>();

    // ---- parsing

    public int append(int w0, int w1, int w2, int w3, int w4) {
        if (input.length() > 580) {
            throw new IllegalStateException();
        }
        for (int w : new int[] {w0, w1, w2, w3, w4}) {
            for (int i = 0; i < 4; i++) {
                input.append((char) Byte.toUnsignedInt((byte) (w >> (24 - 8 * i))));
            }
        }
        return input.length();
    }

    public void truncate(int length) {
        if (length < 0 || length > input.length()) {
            throw new IllegalArgumentException();
        }
        input.setLength(length);
    }

    public int load() {
        String text = input.toString();
        input.setLength(0);
        try {
            int[] newRank = new int[1];
            Memory described = parsed(text, newRank);
            rank = newRank[0];
            memory = described;
            saved = null;
            undone.clear();
            errorKind = 0;
            errorPosition = -1;
            return rank;
        } catch (TextError e) {
            errorKind = e.kind;
            errorPosition = e.position;
            throw new IllegalArgumentException();
        }
    }

    private static Memory parsed(String text, int[] newRank) throws TextError {
        Deque<Token> tokens = new ArrayDeque<>();
        Matcher matcher = Pattern.compile("[a-zA-Z]+|[0-9]+|[^ \n]", Pattern.DOTALL).matcher(text);
        while (matcher.find()) {
            tokens.add(new Token(matcher.group(), matcher.start()));
        }
        tokens.add(new Token("", text.length()));
        Memory result = new Memory();
        expect(tokens, "rank");
        newRank[0] = number(tokens, 1, 4);
        expect(tokens, ";");
        while (!tokens.peek().text.isEmpty()) {
            Token keyword = tokens.remove();
            if (keyword.text.equals("set")) {
                int register = number(tokens, 0, 7);
                String product = item("", tokens, newRank[0]);
                while (!tokens.peek().text.equals(";")) {
                    product = item(product, tokens, newRank[0]);
                }
                result.registers[register] = product;
            } else if (keyword.text.equals("join")) {
                int position = tokens.peek().position;
                List<String> words = result.subgroups.get(number(tokens, 0, 1));
                if (words.size() == 6) {
                    throw new TextError(5, position);
                }
                words.add(result.registers[number(tokens, 0, 7)]);
            } else {
                throw new TextError(1, keyword.position);
            }
            expect(tokens, ";");
        }
        return result;
    }

    private static void expect(Deque<Token> tokens, String text) throws TextError {
        Token token = tokens.remove();
        if (!token.text.equals(text)) {
            throw new TextError(1, token.position);
        }
    }

    private static int number(Deque<Token> tokens, int least, int greatest) throws TextError {
        Token token = tokens.remove();
        if (!token.text.matches("[0-9]{1,2}")) {
            throw new TextError(1, token.position);
        }
        int value = Integer.parseInt(token.text);
        if (value < least || value > greatest) {
            throw new TextError(2, token.position);
        }
        return value;
    }

    private static String item(String product, Deque<Token> tokens, int rank) throws TextError {
        Token token = tokens.remove();
        if (token.text.equals("1")) {
            return product;
        }
        if (!token.text.matches("[a-zA-Z]{1,60}")) {
            throw new TextError(1, token.position);
        }
        if (!isWord(token.text, rank)) {
            throw new TextError(3, token.position);
        }
        String result = reduced(product + token.text);
        if (result.length() > 60) {
            throw new TextError(4, token.position);
        }
        return result;
    }

    public int errorKind() {
        return errorKind;
    }

    public int errorPosition() {
        return errorPosition;
    }

    // ---- words

    private static boolean isWord(String text, int rank) {
        return text.chars().allMatch(c -> LETTERS.substring(0, 2 * rank).indexOf(c) >= 0);
    }

    private static char inverse(char letter) {
        return Character.isLowerCase(letter) ? Character.toUpperCase(letter) : Character.toLowerCase(letter);
    }

    private static String inverse(String word) {
        StringBuilder result = new StringBuilder();
        for (char letter : word.toCharArray()) {
            result.insert(0, inverse(letter));
        }
        return result.toString();
    }

    private static String reduced(String word) {
        String before;
        String after = word;
        do {
            before = after;
            after = before.replaceAll("aA|Aa|bB|Bb|cC|Cc|dD|Dd", "");
        } while (!after.equals(before));
        return after;
    }

    private static void check(int number, int count) {
        if (number < 0 || number >= count) {
            throw new IndexOutOfBoundsException();
        }
    }

    private String word(int register) {
        check(register, 8);
        return memory.registers[register];
    }

    public int groupRank() {
        return rank;
    }

    public int wordLength(int register) {
        return word(register).length();
    }

    public char letter(int register, int index) {
        String word = word(register);
        check(index, word.length());
        return word.charAt(index);
    }

    public boolean areEqual(int register, int other) {
        return word(register).equals(word(other));
    }

    public boolean areInverse(int register, int other) {
        return reduced(word(register) + word(other)).isEmpty();
    }

    public int compare(int register, int other) {
        String left = word(register);
        String right = word(other);
        int order = Integer.compare(left.length(), right.length());
        for (int i = 0; order == 0 && i < left.length(); i++) {
            order = Integer.compare(LETTERS.indexOf(left.charAt(i)), LETTERS.indexOf(right.charAt(i)));
        }
        return order;
    }

    public int exponentSum(int register, int generator) {
        String word = word(register);
        check(generator, rank);
        char letter = (char) ('a' + generator);
        return (int) (word.chars().filter(c -> c == letter).count()
                - word.chars().filter(c -> c == inverse(letter)).count());
    }

    public int commonPrefix(int register, int other) {
        String left = word(register);
        String right = word(other);
        int length = 0;
        while (length < left.length() && right.startsWith(left.substring(0, length + 1))) {
            length++;
        }
        return length;
    }

    public int cancellation(int register, int other) {
        String both = word(register) + word(other);
        return (both.length() - reduced(both).length()) / 2;
    }

    public boolean doCommute(int register, int other) {
        return reduced(word(register) + word(other)).equals(reduced(word(other) + word(register)));
    }

    // ---- cyclic words

    private static String core(String word) {
        String core = word;
        while (core.length() > 1 && core.charAt(0) == inverse(core.charAt(core.length() - 1))) {
            core = core.substring(1, core.length() - 1);
        }
        return core;
    }

    public int coreLength(int register) {
        return core(word(register)).length();
    }

    public char coreLetter(int register, int index) {
        String core = core(word(register));
        check(index, core.length());
        return core.charAt(index);
    }

    public boolean areConjugate(int register, int other) {
        String left = core(word(register));
        String right = core(word(other));
        return left.length() == right.length() && (left + left).contains(right);
    }

    public int rotation(int register, int other) {
        String left = core(word(register));
        String right = core(word(other));
        if (left.length() != right.length() || !(left + left).contains(right)) {
            throw new NoSuchElementException();
        }
        return (left + left).indexOf(right);
    }

    public int rootExponent(int register) {
        String word = word(register);
        if (word.isEmpty()) {
            throw new NoSuchElementException();
        }
        return exponent(core(word));
    }

    private static int exponent(String core) {
        for (int k = core.length(); ; k--) {
            if (core.length() % k == 0 && core.substring(0, core.length() / k).repeat(k).equals(core)) {
                return k;
            }
        }
    }

    // ---- Magnus expansion

    private Map<String, Long> expansion(String word) {
        Map<String, Long> sum = new HashMap<>();
        sum.put("", 1L);
        for (char letter : word.toCharArray()) {
            Map<String, Long> image = new HashMap<>();
            String x = String.valueOf(Character.toLowerCase(letter));
            for (int power = 0; power <= (x.charAt(0) == letter ? 1 : 4); power++) {
                image.put(x.repeat(power), x.charAt(0) == letter || power % 2 == 0 ? 1L : -1L);
            }
            Map<String, Long> product = new HashMap<>();
            sum.forEach((left, p) -> image.forEach((right, q) -> {
                if (left.length() + right.length() <= 4) {
                    product.merge(left + right, p * q, Long::sum);
                }
            }));
            sum = product;
        }
        return sum;
    }

    private long norm(String word, int degree) {
        return expansion(word).entrySet().stream().filter(term -> term.getKey().length() == degree)
                .mapToLong(term -> Math.abs(term.getValue())).sum();
    }

    public int magnusDegree(int register) {
        String word = word(register);
        for (int degree = 1; degree <= 4; degree++) {
            if (norm(word, degree) != 0) {
                return degree;
            }
        }
        return -1;
    }

    public int magnusCoefficient(int register, int first, int second) {
        String word = word(register);
        check(first, rank);
        check(second, rank);
        String term = "" + (char) ('a' + first) + (char) ('a' + second);
        return expansion(word).getOrDefault(term, 0L).intValue();
    }

    public long magnusNorm(int register, int degree) {
        String word = word(register);
        if (degree < 0 || degree > 4) {
            throw new IllegalArgumentException();
        }
        return norm(word, degree);
    }

    // ---- subgroups

    private Folded graph(int subgroup) {
        check(subgroup, 2);
        return folded.computeIfAbsent(List.copyOf(memory.subgroups.get(subgroup)), PlainModel::fold);
    }

    private static Folded fold(List<String> words) {
        List<Edge> edges = new ArrayList<>();
        int vertices = 1;
        for (String word : words) {
            int at = 0;
            for (int i = 0; i < word.length(); i++) {
                int next = i == word.length() - 1 ? 0 : vertices++;
                int code = LETTERS.indexOf(word.charAt(i));
                edges.add(code % 2 == 0 ? new Edge(at, code / 2, next) : new Edge(next, code / 2, at));
                at = next;
            }
        }
        int[] pair;
        while ((pair = toIdentify(edges)) != null) {
            int kept = Math.min(pair[0], pair[1]);
            int gone = Math.max(pair[0], pair[1]);
            edges.replaceAll(e -> new Edge(e.from == gone ? kept : e.from, e.label, e.to == gone ? kept : e.to));
        }
        return numbered(edges.stream().distinct().toList());
    }

    private static int[] toIdentify(List<Edge> edges) {
        Map<List<Integer>, Integer> ends = new HashMap<>();
        for (Edge e : edges) {
            Integer end = ends.putIfAbsent(List.of(e.from, e.label, 0), e.to);
            if (end != null && end != e.to) {
                return new int[] {end, e.to};
            }
            Integer start = ends.putIfAbsent(List.of(e.to, e.label, 1), e.from);
            if (start != null && start != e.from) {
                return new int[] {start, e.from};
            }
        }
        return null;
    }

    private static Folded numbered(List<Edge> edges) {
        Folded result = new Folded();
        result.edges = edges.size();
        LinkedHashMap<Integer, String> reached = new LinkedHashMap<>();
        reached.put(0, "");
        List<Edge> unused = new ArrayList<>(edges);
        List<Integer> order = new ArrayList<>(List.of(0));
        for (int i = 0; i < order.size(); i++) {
            for (char letter : LETTERS.toCharArray()) {
                int label = Character.toLowerCase(letter) - 'a';
                boolean along = Character.isLowerCase(letter);
                for (Edge e : edges) {
                    int here = along ? e.from : e.to;
                    int there = along ? e.to : e.from;
                    if (here == order.get(i) && e.label == label && !reached.containsKey(there)) {
                        reached.put(there, reached.get(here) + letter);
                        order.add(there);
                        unused.remove(e);
                    }
                }
            }
        }
        for (int vertex : order) {
            result.representatives.add(reached.get(vertex));
            result.neighbours.add(new HashMap<>());
        }
        for (Edge e : edges) {
            char letter = (char) ('a' + e.label);
            result.neighbours.get(order.indexOf(e.from)).put(letter, order.indexOf(e.to));
            result.neighbours.get(order.indexOf(e.to)).put(inverse(letter), order.indexOf(e.from));
        }
        unused.stream().map(e -> new Edge(order.indexOf(e.from), e.label, order.indexOf(e.to)))
                .sorted((e, f) -> e.from != f.from ? e.from - f.from : e.label - f.label)
                .forEach(result.remaining::add);
        return result;
    }

    public int generatingWordCount(int subgroup) {
        check(subgroup, 2);
        return memory.subgroups.get(subgroup).size();
    }

    public int vertexCount(int subgroup) {
        return graph(subgroup).representatives.size();
    }

    public int edgeCount(int subgroup) {
        return graph(subgroup).edges;
    }

    public int neighbour(int subgroup, int vertex, int code) {
        Folded graph = graph(subgroup);
        check(vertex, graph.neighbours.size());
        check(code, 2 * rank);
        return graph.neighbours.get(vertex).getOrDefault(LETTERS.charAt(code), -1);
    }

    public int subgroupRank(int subgroup) {
        return graph(subgroup).remaining.size();
    }

    public int index(int subgroup) {
        Folded graph = graph(subgroup);
        return graph.neighbours.stream().allMatch(map -> map.size() == 2 * rank) ? graph.neighbours.size() : -1;
    }

    public boolean contains(int subgroup, int register) {
        return graph(subgroup).walk(0, word(register)) == 0;
    }

    public int reachedVertex(int subgroup, int register) {
        return graph(subgroup).walk(0, word(register));
    }

    public int smallestPower(int subgroup, int register) {
        Folded graph = graph(subgroup);
        String word = word(register);
        // The powers of a word lie in at most as many cosets as the graph has vertices, or never come back.
        for (int k = 1; k <= graph.neighbours.size(); k++) {
            if (graph.walk(0, reducedPower(word, k)) == 0) {
                return k;
            }
        }
        return -1;
    }

    private static String reducedPower(String word, int k) {
        StringBuilder power = new StringBuilder();
        for (int i = 0; i < k; i++) {
            for (char letter : word.toCharArray()) {
                int last = power.length() - 1;
                if (last >= 0 && power.charAt(last) == inverse(letter)) {
                    power.setLength(last);
                } else {
                    power.append(letter);
                }
            }
        }
        return power.toString();
    }

    public boolean isNormal(int subgroup) {
        Folded graph = graph(subgroup);
        if (graph.remaining.isEmpty()) {
            return true;
        }
        if (index(subgroup) == -1) {
            return false;
        }
        for (String word : memory.subgroups.get(subgroup)) {
            for (int vertex = 0; vertex < graph.neighbours.size(); vertex++) {
                if (graph.walk(vertex, word) != vertex) {
                    return false;
                }
            }
        }
        return true;
    }

    public boolean containsSubgroup(int subgroup, int other) {
        Folded graph = graph(subgroup);
        check(other, 2);
        return memory.subgroups.get(other).stream().allMatch(word -> graph.walk(0, word) == 0);
    }

    private int[] pairsAndEdges() {
        Folded left = graph(0);
        Folded right = graph(1);
        List<List<Integer>> pairs = new ArrayList<>(List.of(List.of(0, 0)));
        java.util.Set<List<Integer>> known = new java.util.HashSet<>(pairs);
        int ends = 0;
        for (int i = 0; i < pairs.size(); i++) {
            for (Map.Entry<Character, Integer> step : left.neighbours.get(pairs.get(i).get(0)).entrySet()) {
                Integer second = right.neighbours.get(pairs.get(i).get(1)).get(step.getKey());
                if (second != null) {
                    ends++;
                    if (known.add(List.of(step.getValue(), second))) {
                        pairs.add(List.of(step.getValue(), second));
                    }
                }
            }
        }
        return new int[] {pairs.size(), ends / 2};
    }

    public int intersectionRank() {
        int[] found = pairsAndEdges();
        return found[1] - found[0] + 1;
    }

    public int intersectionIndex() {
        return index(0) == -1 || index(1) == -1 ? -1 : pairsAndEdges()[0];
    }

    public int representativeLength(int subgroup, int vertex) {
        Folded graph = graph(subgroup);
        check(vertex, graph.representatives.size());
        return graph.representatives.get(vertex).length();
    }

    // ---- edits

    private void record() {
        undone.push(new Memory(memory));
        if (undone.size() > 8) {
            undone.removeLast();
        }
    }

    private int store(int register, String product) {
        String word = reduced(product);
        if (word.length() > 60) {
            throw new IllegalStateException();
        }
        record();
        memory.registers[register] = word;
        return word.length();
    }

    public int setRegister(int register) {
        word(register);
        if (!isWord(input.toString(), rank)) {
            throw new IllegalArgumentException();
        }
        int length = store(register, input.toString());
        input.setLength(0);
        return length;
    }

    public int setProduct(int register, int left, int right) {
        word(register);
        return store(register, word(left) + word(right));
    }

    public int setInverse(int register, int source) {
        word(register);
        return store(register, inverse(word(source)));
    }

    public int setConjugate(int register, int source, int by) {
        word(register);
        return store(register, inverse(word(by)) + word(source) + word(by));
    }

    public int setCommutator(int register, int first, int second) {
        word(register);
        return store(register, inverse(word(first)) + inverse(word(second)) + word(first) + word(second));
    }

    public int setPower(int register, int source, int exponent) {
        word(register);
        String word = word(source);
        if (exponent < -20 || exponent > 20) {
            throw new IllegalArgumentException();
        }
        return store(register, reducedPower(exponent < 0 ? inverse(word) : word, Math.abs(exponent)));
    }

    public int setRoot(int register, int source) {
        word(register);
        String word = word(source);
        if (word.isEmpty()) {
            throw new NoSuchElementException();
        }
        String core = core(word);
        int exponent = exponent(core);
        String tail = word.substring((word.length() + core.length()) / 2);
        for (int length = 1; ; length++) {
            String root = reduced(inverse(tail) + core.substring(0, Math.min(length, core.length())) + tail);
            if (reducedPower(root, exponent).equals(word)) {
                return store(register, root);
            }
        }
    }

    public int substitute(int register, int source, int generator, int by) {
        word(register);
        String word = word(source);
        check(generator, rank);
        String replacement = word(by);
        char letter = (char) ('a' + generator);
        String marked = word.replace(letter, '+').replace(inverse(letter), '-');
        return store(register, marked.replace("+", replacement).replace("-", inverse(replacement)));
    }

    public int addGeneratingWord(int subgroup, int register) {
        check(subgroup, 2);
        String word = word(register);
        if (memory.subgroups.get(subgroup).size() == 6) {
            throw new IllegalStateException();
        }
        record();
        memory.subgroups.get(subgroup).add(word);
        return memory.subgroups.get(subgroup).size();
    }

    public int removeGeneratingWord(int subgroup, int word) {
        check(subgroup, 2);
        check(word, memory.subgroups.get(subgroup).size());
        record();
        memory.subgroups.get(subgroup).remove(word);
        return memory.subgroups.get(subgroup).size();
    }

    public int undo() {
        if (undone.isEmpty()) {
            throw new IllegalStateException();
        }
        memory = undone.pop();
        return undone.size();
    }

    // ---- saved state

    private int letters() {
        return Arrays.stream(memory.registers).mapToInt(String::length).sum();
    }

    public int save() {
        saved = new Memory(memory);
        return letters();
    }

    public int restore() {
        if (saved == null) {
            throw new IllegalStateException();
        }
        record();
        memory = new Memory(saved);
        return letters();
    }

    // ---- formatted text

    public int formatWord(int register) {
        String word = word(register);
        Matcher runs = Pattern.compile("(.)\\1*").matcher(word);
        formatted = word.isEmpty() ? "1" : runs.replaceAll(run -> {
            char letter = run.group().charAt(0);
            int exponent = Character.isLowerCase(letter) ? run.group().length() : -run.group().length();
            return Character.toLowerCase(letter) + (exponent == 1 ? "" : String.valueOf(exponent));
        });
        return formatted.length();
    }

    public int formatBasisWord(int subgroup, int index) {
        Folded graph = graph(subgroup);
        check(index, graph.remaining.size());
        Edge edge = graph.remaining.get(index);
        formatted = reduced(graph.representatives.get(edge.from) + (char) ('a' + edge.label)
                + inverse(graph.representatives.get(edge.to)));
        return formatted.length();
    }

    public int formatRepresentative(int subgroup, int vertex) {
        Folded graph = graph(subgroup);
        check(vertex, graph.representatives.size());
        formatted = graph.representatives.get(vertex);
        return formatted.length();
    }

    public char formattedCharacter(int index) {
        check(index, formatted.length());
        return formatted.charAt(index);
    }
}
