import java.util.Arrays;
import java.util.NoSuchElementException;

/** A calculator for words in a free group and for its finitely generated subgroups. */
public final class FreeGroupCalculator {
    public static final int NONE = -1;
    public static final int NO_ERROR = 0;
    public static final int SYNTAX_ERROR = 1;
    public static final int NUMBER_OUT_OF_RANGE = 2;
    public static final int UNKNOWN_GENERATOR = 3;
    public static final int WORD_TOO_LONG = 4;
    public static final int TOO_MANY = 5;

    private static final int REGISTERS = 8;
    private static final int SUBGROUPS = 2;
    private static final int MAX_WORDS = 6;
    private static final int MAX_RANK = 4;
    private static final int INITIAL_RANK = 2;
    private static final int CODES = 2 * MAX_RANK;
    private static final int MAX_LETTERS = 60;
    private static final int MAX_BYTES = 600;
    private static final int MAX_DIGITS = 2;
    private static final int APPENDED_BYTES = 20;
    private static final int MAX_EXPONENT = 20;
    private static final int KEPT_EDITS = 8;
    private static final int MAX_DEGREE = 4;

    // A generating word brings at most 59 inner vertices beside the base vertex.
    private static final int MAX_VERTICES = 1 + MAX_WORDS * (MAX_LETTERS - 1);
    private static final int MAX_PAIRS = MAX_VERTICES * MAX_VERTICES;
    // The longest product before it is reduced: a substitution that replaces each of 60 letters.
    private static final int MAX_PRODUCT = MAX_LETTERS * MAX_LETTERS;
    // The longest formatted text: 60 runs of one inverse letter, each written like a-1.
    private static final int MAX_FORMATTED = 3 * MAX_LETTERS;

    private static final int END = 0;
    private static final int WORD = 1;
    private static final int NUMBER = 2;
    private static final int SEMICOLON = 3;
    private static final int OTHER = 4;

    private final int[] input = new int[MAX_BYTES];
    private int inputLength;
    private final State state = new State();
    private final State savedState = new State();
    private boolean hasSavedState;
    private final History history = new History();
    private final Parser parser = new Parser();
    private final Graph[] graphs = new Graph[SUBGROUPS];
    private final Folding folding = new Folding();
    private final Intersection intersection = new Intersection();
    private final Magnus magnus = new Magnus();
    private final Word product = new Word(MAX_PRODUCT);
    private final Word wayBack = new Word(MAX_VERTICES);
    private final FormattedText formatted = new FormattedText();

    public FreeGroupCalculator() {
        for (int i = 0; i < SUBGROUPS; i++) {
            graphs[i] = new Graph();
        }
    }

    // ---- parsing

    public int append(int w0, int w1, int w2, int w3, int w4) throws IllegalStateException {
        if (inputLength + APPENDED_BYTES > MAX_BYTES) {
            throw new IllegalStateException("the input buffer is full");
        }
        putBytes(w0);
        putBytes(w1);
        putBytes(w2);
        putBytes(w3);
        putBytes(w4);
        return inputLength;
    }

    public void truncate(int length) throws IllegalArgumentException {
        if (length < 0 || length > inputLength) {
            throw new IllegalArgumentException("no such length");
        }
        inputLength = length;
    }

    public int load() throws IllegalArgumentException {
        boolean correct = parser.parse(input, inputLength);
        inputLength = 0;
        if (!correct) {
            throw new IllegalArgumentException("the text has an error");
        }
        state.copyFrom(parser.result);
        history.forget();
        hasSavedState = false;
        markGraphsStale();
        return state.rank;
    }

    public int errorKind() {
        return parser.errorKind;
    }

    public int errorPosition() {
        return parser.errorPosition;
    }

    // ---- words

    public int groupRank() {
        return state.rank;
    }

    public int wordLength(int register) throws IndexOutOfBoundsException {
        return wordOf(register).length;
    }

    public char letter(int register, int index) throws IndexOutOfBoundsException {
        Word word = wordOf(register);
        checkIndex(index, word.length);
        return letterOfCode(word.codes[index]);
    }

    public boolean areEqual(int register, int other) throws IndexOutOfBoundsException {
        return order(wordOf(register), wordOf(other)) == 0;
    }

    public boolean areInverse(int register, int other) throws IndexOutOfBoundsException {
        Word left = wordOf(register);
        Word right = wordOf(other);
        return left.length == right.length && cancelledPairs(left, right) == left.length;
    }

    public int compare(int register, int other) throws IndexOutOfBoundsException {
        return order(wordOf(register), wordOf(other));
    }

    public int exponentSum(int register, int generator) throws IndexOutOfBoundsException {
        Word word = wordOf(register);
        checkIndex(generator, state.rank);
        int sum = 0;
        for (int i = 0; i < word.length; i++) {
            if (word.codes[i] / 2 == generator) {
                sum += isInverse(word.codes[i]) ? -1 : 1;
            }
        }
        return sum;
    }

    public int commonPrefix(int register, int other) throws IndexOutOfBoundsException {
        return prefixLength(wordOf(register), wordOf(other));
    }

    public int cancellation(int register, int other) throws IndexOutOfBoundsException {
        return cancelledPairs(wordOf(register), wordOf(other));
    }

    public boolean doCommute(int register, int other) throws IndexOutOfBoundsException {
        makeCommutator(wordOf(register), wordOf(other));
        return product.length == 0;
    }

    // ---- cyclic words

    public int coreLength(int register) throws IndexOutOfBoundsException {
        return wordOf(register).lengthOfCore();
    }

    public char coreLetter(int register, int index) throws IndexOutOfBoundsException {
        Word word = wordOf(register);
        checkIndex(index, word.lengthOfCore());
        return letterOfCode(word.codes[word.coreStart() + index]);
    }

    public boolean areConjugate(int register, int other) throws IndexOutOfBoundsException {
        return smallestRotation(wordOf(register), wordOf(other)) != NONE;
    }

    public int rotation(int register, int other) throws IndexOutOfBoundsException, NoSuchElementException {
        int found = smallestRotation(wordOf(register), wordOf(other));
        if (found == NONE) {
            throw new NoSuchElementException("the words are not conjugate");
        }
        return found;
    }

    public int rootExponent(int register) throws IndexOutOfBoundsException, NoSuchElementException {
        Word word = wordOf(register);
        checkNotEmpty(word);
        return word.exponentOfRoot();
    }

    // ---- Magnus expansion

    public int magnusDegree(int register) throws IndexOutOfBoundsException {
        magnus.expand(wordOf(register));
        for (int degree = 1; degree <= MAX_DEGREE; degree++) {
            if (magnus.norm(degree) != 0) {
                return degree;
            }
        }
        return NONE;
    }

    public int magnusCoefficient(int register, int first, int second) throws IndexOutOfBoundsException {
        Word word = wordOf(register);
        checkIndex(first, state.rank);
        checkIndex(second, state.rank);
        magnus.expand(word);
        return magnus.quadraticCoefficient(first, second);
    }

    public long magnusNorm(int register, int degree) throws IndexOutOfBoundsException, IllegalArgumentException {
        Word word = wordOf(register);
        if (degree < 0 || degree > MAX_DEGREE) {
            throw new IllegalArgumentException("no such degree");
        }
        magnus.expand(word);
        return magnus.norm(degree);
    }

    // ---- subgroups

    public int generatingWordCount(int subgroup) throws IndexOutOfBoundsException {
        checkIndex(subgroup, SUBGROUPS);
        return state.wordCounts[subgroup];
    }

    public int vertexCount(int subgroup) throws IndexOutOfBoundsException {
        return graphOf(subgroup).vertices;
    }

    public int edgeCount(int subgroup) throws IndexOutOfBoundsException {
        return graphOf(subgroup).edges;
    }

    public int neighbour(int subgroup, int vertex, int code) throws IndexOutOfBoundsException {
        Graph graph = graphOf(subgroup);
        checkIndex(vertex, graph.vertices);
        checkIndex(code, 2 * state.rank);
        return graph.follow(vertex, code);
    }

    public int subgroupRank(int subgroup) throws IndexOutOfBoundsException {
        return graphOf(subgroup).cycleRank();
    }

    public int index(int subgroup) throws IndexOutOfBoundsException {
        Graph graph = graphOf(subgroup);
        return graph.isComplete(state.rank) ? graph.vertices : NONE;
    }

    public boolean contains(int subgroup, int register) throws IndexOutOfBoundsException {
        return graphOf(subgroup).isClosedPath(0, wordOf(register));
    }

    public int reachedVertex(int subgroup, int register) throws IndexOutOfBoundsException {
        Graph graph = graphOf(subgroup);
        Word word = wordOf(register);
        return graph.trace(0, word, 0, word.length);
    }

    public int smallestPower(int subgroup, int register) throws IndexOutOfBoundsException {
        Graph graph = graphOf(subgroup);
        Word word = wordOf(register);
        return graph.smallestClosedPower(word);
    }

    public boolean isNormal(int subgroup) throws IndexOutOfBoundsException {
        Graph graph = graphOf(subgroup);
        if (graph.cycleRank() == 0) {
            return true;
        }
        if (!graph.isComplete(state.rank)) {
            return false;
        }
        for (int i = 0; i < state.wordCounts[subgroup]; i++) {
            if (!graph.isClosedEverywhere(state.generatingWord(subgroup, i))) {
                return false;
            }
        }
        return true;
    }

    public boolean containsSubgroup(int subgroup, int other) throws IndexOutOfBoundsException {
        Graph graph = graphOf(subgroup);
        checkIndex(other, SUBGROUPS);
        for (int i = 0; i < state.wordCounts[other]; i++) {
            if (!graph.isClosedPath(0, state.generatingWord(other, i))) {
                return false;
            }
        }
        return true;
    }

    public int intersectionRank() {
        searchIntersection();
        return intersection.edges - intersection.pairs + 1;
    }

    public int intersectionIndex() {
        if (!graphOf(0).isComplete(state.rank) || !graphOf(1).isComplete(state.rank)) {
            return NONE;
        }
        searchIntersection();
        return intersection.pairs;
    }

    public int representativeLength(int subgroup, int vertex) throws IndexOutOfBoundsException {
        Graph graph = graphOf(subgroup);
        checkIndex(vertex, graph.vertices);
        return graph.depths[vertex];
    }

    // ---- edits

    public int setRegister(int register)
            throws IndexOutOfBoundsException, IllegalArgumentException, IllegalStateException {
        checkIndex(register, REGISTERS);
        product.clear();
        for (int i = 0; i < inputLength; i++) {
            int code = codeOfByte(input[i], state.rank);
            if (code == NONE) {
                throw new IllegalArgumentException("not a letter of the group");
            }
            product.put(code);
        }
        int length = storeProduct(register);
        inputLength = 0;
        return length;
    }

    public int setProduct(int register, int left, int right)
            throws IndexOutOfBoundsException, IllegalStateException {
        checkIndex(register, REGISTERS);
        Word first = wordOf(left);
        Word second = wordOf(right);
        product.clear();
        product.putWord(first);
        product.putWord(second);
        return storeProduct(register);
    }

    public int setInverse(int register, int source) throws IndexOutOfBoundsException {
        checkIndex(register, REGISTERS);
        Word word = wordOf(source);
        product.clear();
        product.putInverse(word);
        return storeProduct(register);
    }

    public int setConjugate(int register, int source, int by)
            throws IndexOutOfBoundsException, IllegalStateException {
        checkIndex(register, REGISTERS);
        Word word = wordOf(source);
        Word conjugator = wordOf(by);
        product.clear();
        product.putInverse(conjugator);
        product.putWord(word);
        product.putWord(conjugator);
        return storeProduct(register);
    }

    public int setCommutator(int register, int first, int second)
            throws IndexOutOfBoundsException, IllegalStateException {
        checkIndex(register, REGISTERS);
        makeCommutator(wordOf(first), wordOf(second));
        return storeProduct(register);
    }

    public int setPower(int register, int source, int exponent)
            throws IndexOutOfBoundsException, IllegalArgumentException, IllegalStateException {
        checkIndex(register, REGISTERS);
        Word word = wordOf(source);
        if (exponent < -MAX_EXPONENT || exponent > MAX_EXPONENT) {
            throw new IllegalArgumentException("no such exponent");
        }
        product.clear();
        for (int i = 0; i < exponent; i++) {
            product.putWord(word);
        }
        for (int i = 0; i > exponent; i--) {
            product.putInverse(word);
        }
        return storeProduct(register);
    }

    public int setRoot(int register, int source) throws IndexOutOfBoundsException, NoSuchElementException {
        checkIndex(register, REGISTERS);
        Word word = wordOf(source);
        checkNotEmpty(word);
        int start = word.coreStart();
        product.clear();
        product.putPart(word, 0, start + word.rootLength());
        product.putPart(word, word.length - start, word.length);
        return storeProduct(register);
    }

    public int substitute(int register, int source, int generator, int by)
            throws IndexOutOfBoundsException, IllegalStateException {
        checkIndex(register, REGISTERS);
        Word word = wordOf(source);
        checkIndex(generator, state.rank);
        Word replacement = wordOf(by);
        product.clear();
        for (int i = 0; i < word.length; i++) {
            int code = word.codes[i];
            if (code / 2 != generator) {
                product.put(code);
            } else if (isInverse(code)) {
                product.putInverse(replacement);
            } else {
                product.putWord(replacement);
            }
        }
        return storeProduct(register);
    }

    public int addGeneratingWord(int subgroup, int register)
            throws IndexOutOfBoundsException, IllegalStateException {
        checkIndex(subgroup, SUBGROUPS);
        Word word = wordOf(register);
        if (state.wordCounts[subgroup] >= MAX_WORDS) {
            throw new IllegalStateException("the subgroup has 6 generating words");
        }
        history.record(state);
        state.addWord(subgroup, word);
        markGraphsStale();
        return state.wordCounts[subgroup];
    }

    public int removeGeneratingWord(int subgroup, int word) throws IndexOutOfBoundsException {
        checkIndex(subgroup, SUBGROUPS);
        checkIndex(word, state.wordCounts[subgroup]);
        history.record(state);
        state.removeWord(subgroup, word);
        markGraphsStale();
        return state.wordCounts[subgroup];
    }

    public int undo() throws IllegalStateException {
        if (history.count == 0) {
            throw new IllegalStateException("there is no edit to undo");
        }
        history.takeBack(state);
        markGraphsStale();
        return history.count;
    }

    // ---- saved state

    public int save() {
        savedState.copyFrom(state);
        hasSavedState = true;
        return state.lettersInRegisters();
    }

    public int restore() throws IllegalStateException {
        if (!hasSavedState) {
            throw new IllegalStateException("there is no saved state");
        }
        history.record(state);
        state.copyFrom(savedState);
        markGraphsStale();
        return state.lettersInRegisters();
    }

    // ---- formatted text

    public int formatWord(int register) throws IndexOutOfBoundsException {
        formatted.writeRuns(wordOf(register));
        return formatted.length;
    }

    public int formatBasisWord(int subgroup, int index) throws IndexOutOfBoundsException {
        Graph graph = graphOf(subgroup);
        checkIndex(index, graph.cycleRank());
        int edge = graph.remainingEdge(index);
        int start = edge / CODES;
        int code = edge % CODES;
        makeRepresentative(graph, start);
        product.put(code);
        graph.putWayBack(product, graph.follow(start, code));
        formatted.writeLetters(product);
        return formatted.length;
    }

    public int formatRepresentative(int subgroup, int vertex) throws IndexOutOfBoundsException {
        Graph graph = graphOf(subgroup);
        checkIndex(vertex, graph.vertices);
        makeRepresentative(graph, vertex);
        formatted.writeLetters(product);
        return formatted.length;
    }

    public char formattedCharacter(int index) throws IndexOutOfBoundsException {
        checkIndex(index, formatted.length);
        return formatted.characters[index];
    }

    // ---- what several calls share

    private static void checkIndex(int index, int count) {
        if (index < 0 || index >= count) {
            throw new IndexOutOfBoundsException("there is no such number");
        }
    }

    private static void checkNotEmpty(Word word) {
        if (word.length == 0) {
            throw new NoSuchElementException("the word is empty");
        }
    }

    private void putBytes(int four) {
        for (int shift = 24; shift >= 0 && inputLength < MAX_BYTES; shift -= 8) {
            input[inputLength] = four >>> shift & 255;
            inputLength++;
        }
    }

    private Word wordOf(int register) {
        checkIndex(register, REGISTERS);
        return state.registers[register];
    }

    // Folding is dear, so a graph is made anew only when it is asked for after a change.
    private Graph graphOf(int subgroup) {
        checkIndex(subgroup, SUBGROUPS);
        Graph graph = graphs[subgroup];
        if (graph.isStale) {
            folding.fold(state, subgroup, graph);
            graph.isStale = false;
        }
        return graph;
    }

    private void searchIntersection() {
        Graph left = graphOf(0);
        Graph right = graphOf(1);
        if (intersection.isStale) {
            intersection.search(left, right);
            intersection.isStale = false;
        }
    }

    private void markGraphsStale() {
        for (int i = 0; i < SUBGROUPS; i++) {
            graphs[i].isStale = true;
        }
        intersection.isStale = true;
    }

    // Everything that can be refused has been looked at when the edit is recorded.
    private int storeProduct(int register) {
        if (product.length > MAX_LETTERS) {
            throw new IllegalStateException("the result has more than 60 letters");
        }
        history.record(state);
        state.registers[register].copyFrom(product);
        return product.length;
    }

    private void makeCommutator(Word first, Word second) {
        product.clear();
        product.putInverse(first);
        product.putInverse(second);
        product.putWord(first);
        product.putWord(second);
    }

    private void makeRepresentative(Graph graph, int vertex) {
        wayBack.clear();
        graph.putWayBack(wayBack, vertex);
        product.clear();
        product.putInverse(wayBack);
    }

    private static boolean isInverse(int code) {
        return (code & 1) != 0;
    }

    private static char letterOfCode(int code) {
        return (char) ((isInverse(code) ? 'A' : 'a') + code / 2);
    }

    private static int codeOfByte(int symbol, int rank) {
        if (symbol >= 'a' && symbol < 'a' + rank) {
            return 2 * (symbol - 'a');
        }
        if (symbol >= 'A' && symbol < 'A' + rank) {
            return 2 * (symbol - 'A') + 1;
        }
        return NONE;
    }

    private static int prefixLength(Word left, Word right) {
        int shorter = Math.min(left.length, right.length);
        for (int i = 0; i < shorter; i++) {
            if (left.codes[i] != right.codes[i]) {
                return i;
            }
        }
        return shorter;
    }

    private static int order(Word left, Word right) {
        if (left.length != right.length) {
            return left.length < right.length ? -1 : 1;
        }
        int same = prefixLength(left, right);
        if (same == left.length) {
            return 0;
        }
        return left.codes[same] < right.codes[same] ? -1 : 1;
    }

    private static int cancelledPairs(Word left, Word right) {
        int shorter = Math.min(left.length, right.length);
        for (int i = 0; i < shorter; i++) {
            if (left.codes[left.length - 1 - i] != (right.codes[i] ^ 1)) {
                return i;
            }
        }
        return shorter;
    }

    private static int smallestRotation(Word word, Word other) {
        int length = word.lengthOfCore();
        if (other.lengthOfCore() != length) {
            return NONE;
        }
        if (length == 0) {
            return 0;
        }
        for (int shift = 0; shift < length; shift++) {
            if (isCoreRotated(word, other, shift)) {
                return shift;
            }
        }
        return NONE;
    }

    // Both cores have the same length.
    private static boolean isCoreRotated(Word word, Word other, int shift) {
        int length = word.lengthOfCore();
        int start = word.coreStart();
        int otherStart = other.coreStart();
        for (int i = 0; i < length; i++) {
            int from = i + shift < length ? i + shift : i + shift - length;
            if (word.codes[start + from] != other.codes[otherStart + i]) {
                return false;
            }
        }
        return true;
    }

    /** A word that stays reduced while letters are put at its end. */
    private static final class Word {
        final int[] codes;
        int length;

        Word(int capacity) {
            codes = new int[Math.max(capacity, 0)];
        }

        void clear() {
            length = 0;
        }

        void put(int code) {
            if (length > 0 && codes[length - 1] == (code ^ 1)) {
                length--;
            } else if (length < codes.length) {
                codes[length] = code;
                length++;
            }
        }

        void putWord(Word other) {
            putPart(other, 0, other.length);
        }

        void putPart(Word other, int from, int end) {
            for (int i = from; i < end; i++) {
                put(other.codes[i]);
            }
        }

        void putInverse(Word other) {
            for (int i = other.length - 1; i >= 0; i--) {
                put(other.codes[i] ^ 1);
            }
        }

        void copyFrom(Word other) {
            length = Math.min(other.length, codes.length);
            System.arraycopy(other.codes, 0, codes, 0, length);
        }

        int coreStart() {
            int start = 0;
            for (int end = length - 1; start < end && codes[start] == (codes[end] ^ 1); end--) {
                start++;
            }
            return start;
        }

        int lengthOfCore() {
            return length - 2 * coreStart();
        }

        // The smallest period that divides the length of the core, 0 for the empty word.
        int rootLength() {
            int whole = lengthOfCore();
            for (int period = 1; period < whole; period++) {
                if (whole % period == 0 && hasCorePeriod(period)) {
                    return period;
                }
            }
            return whole;
        }

        int exponentOfRoot() {
            int period = rootLength();
            return period == 0 ? 0 : lengthOfCore() / period;
        }

        boolean hasCorePeriod(int period) {
            int start = coreStart();
            for (int i = start + period; i < length - start; i++) {
                if (codes[i] != codes[i - period]) {
                    return false;
                }
            }
            return true;
        }
    }

    /** The rank, the registers and the generating words: what a text describes. */
    private static final class State {
        final Word[] registers = new Word[REGISTERS];
        final Word[] generatingWords = new Word[SUBGROUPS * MAX_WORDS];
        final int[] wordCounts = new int[SUBGROUPS];
        int rank = INITIAL_RANK;

        State() {
            for (int i = 0; i < REGISTERS; i++) {
                registers[i] = new Word(MAX_LETTERS);
            }
            for (int i = 0; i < SUBGROUPS * MAX_WORDS; i++) {
                generatingWords[i] = new Word(MAX_LETTERS);
            }
        }

        void reset(int newRank) {
            rank = newRank;
            for (int i = 0; i < REGISTERS; i++) {
                registers[i].clear();
            }
            for (int i = 0; i < SUBGROUPS; i++) {
                wordCounts[i] = 0;
            }
        }

        void copyFrom(State other) {
            rank = other.rank;
            for (int i = 0; i < REGISTERS; i++) {
                registers[i].copyFrom(other.registers[i]);
            }
            for (int i = 0; i < SUBGROUPS; i++) {
                wordCounts[i] = other.wordCounts[i];
                for (int k = 0; k < wordCounts[i]; k++) {
                    generatingWord(i, k).copyFrom(other.generatingWord(i, k));
                }
            }
        }

        Word generatingWord(int subgroup, int number) {
            return generatingWords[subgroup * MAX_WORDS + number];
        }

        void addWord(int subgroup, Word word) {
            int count = wordCounts[subgroup];
            if (count < MAX_WORDS) {
                generatingWord(subgroup, count).copyFrom(word);
                wordCounts[subgroup] = count + 1;
            }
        }

        void removeWord(int subgroup, int number) {
            int last = wordCounts[subgroup] - 1;
            for (int i = number; i < last; i++) {
                generatingWord(subgroup, i).copyFrom(generatingWord(subgroup, i + 1));
            }
            wordCounts[subgroup] = last;
        }

        int lettersInRegisters() {
            int sum = 0;
            for (int i = 0; i < REGISTERS; i++) {
                sum += registers[i].length;
            }
            return sum;
        }
    }

    /** The states before the latest edits, the oldest of which gives way to a new one. */
    private static final class History {
        final State[] states = new State[KEPT_EDITS];
        int next;
        int count;

        History() {
            for (int i = 0; i < KEPT_EDITS; i++) {
                states[i] = new State();
            }
        }

        void forget() {
            count = 0;
        }

        void record(State state) {
            states[next].copyFrom(state);
            next = (next + 1) % KEPT_EDITS;
            count = Math.min(count + 1, KEPT_EDITS);
        }

        void takeBack(State state) {
            if (count > 0) {
                next = (next + KEPT_EDITS - 1) % KEPT_EDITS;
                state.copyFrom(states[next]);
                count--;
            }
        }
    }

    /** Reads a text into a state of its own, so that a text with an error changes nothing else. */
    private static final class Parser {
        final State result = new State();
        final Word product = new Word(2 * MAX_LETTERS);
        int errorKind = NO_ERROR;
        int errorPosition = NONE;
        private int[] text = new int[0];
        private int length;
        private int tokenKind;
        private int tokenStart;
        private int tokenEnd;

        boolean parse(int[] bytes, int count) {
            text = bytes;
            length = Math.min(count, bytes.length);
            tokenEnd = 0;
            errorKind = NO_ERROR;
            errorPosition = NONE;
            advance();
            if (!readRank()) {
                return false;
            }
            // Every statement takes at least one byte.
            for (int i = 0; i < MAX_BYTES && tokenKind != END; i++) {
                if (!readStatement()) {
                    return false;
                }
            }
            return true;
        }

        private boolean readRank() {
            if (!isKeyword("rank")) {
                return fail(SYNTAX_ERROR);
            }
            advance();
            if (!isNumberIn(1, MAX_RANK)) {
                return false;
            }
            int rank = numberValue();
            advance();
            if (!readSemicolon()) {
                return false;
            }
            result.reset(rank);
            return true;
        }

        private boolean readStatement() {
            if (isKeyword("set")) {
                advance();
                return readSet();
            }
            if (isKeyword("join")) {
                advance();
                return readJoin();
            }
            return fail(SYNTAX_ERROR);
        }

        private boolean readSet() {
            if (!isNumberIn(0, REGISTERS - 1)) {
                return false;
            }
            int register = numberValue();
            advance();
            product.clear();
            if (!readItem()) {
                return false;
            }
            // Every item takes at least one byte.
            for (int i = 0; i < MAX_BYTES && tokenKind != SEMICOLON; i++) {
                if (!readItem()) {
                    return false;
                }
            }
            result.registers[register].copyFrom(product);
            return readSemicolon();
        }

        private boolean readJoin() {
            if (!isNumberIn(0, SUBGROUPS - 1)) {
                return false;
            }
            int subgroup = numberValue();
            if (result.wordCounts[subgroup] >= MAX_WORDS) {
                return fail(TOO_MANY);
            }
            advance();
            if (!isNumberIn(0, REGISTERS - 1)) {
                return false;
            }
            int register = numberValue();
            advance();
            result.addWord(subgroup, result.registers[register]);
            return readSemicolon();
        }

        private boolean readSemicolon() {
            if (tokenKind != SEMICOLON) {
                return fail(SYNTAX_ERROR);
            }
            advance();
            return true;
        }

        private boolean readItem() {
            if (tokenKind == NUMBER) {
                if (tokenEnd - tokenStart != 1 || text[tokenStart] != '1') {
                    return fail(SYNTAX_ERROR);
                }
            } else if (tokenKind != WORD) {
                return fail(SYNTAX_ERROR);
            } else if (!multiplyByToken()) {
                return fail(UNKNOWN_GENERATOR);
            } else if (product.length > MAX_LETTERS) {
                return fail(WORD_TOO_LONG);
            }
            advance();
            return true;
        }

        private boolean multiplyByToken() {
            for (int i = tokenStart; i < tokenEnd; i++) {
                int code = codeOfByte(text[i], result.rank);
                if (code == NONE) {
                    return false;
                }
                product.put(code);
            }
            return true;
        }

        private boolean isKeyword(String keyword) {
            int size = keyword.length();
            if (tokenKind != WORD || tokenEnd - tokenStart != size) {
                return false;
            }
            for (int i = 0; i < size; i++) {
                if (text[tokenStart + i] != keyword.charAt(i)) {
                    return false;
                }
            }
            return true;
        }

        private boolean isNumberIn(int least, int greatest) {
            if (tokenKind != NUMBER) {
                return fail(SYNTAX_ERROR);
            }
            int value = numberValue();
            if (value < least || value > greatest) {
                return fail(NUMBER_OUT_OF_RANGE);
            }
            return true;
        }

        private int numberValue() {
            int value = 0;
            for (int i = tokenStart; i < tokenEnd; i++) {
                value = 10 * value + text[i] - '0';
            }
            return value;
        }

        private boolean fail(int kind) {
            errorKind = kind;
            errorPosition = tokenStart;
            return false;
        }

        // A run that is too long becomes a token of the kind OTHER, which no rule of the grammar allows.
        private void advance() {
            tokenStart = tokenEnd;
            while (tokenStart < length && (text[tokenStart] == ' ' || text[tokenStart] == '\n')) {
                tokenStart++;
            }
            tokenEnd = tokenStart;
            if (tokenStart >= length) {
                tokenKind = END;
            } else if (isLetter(text[tokenStart])) {
                while (tokenEnd < length && isLetter(text[tokenEnd])) {
                    tokenEnd++;
                }
                tokenKind = tokenEnd - tokenStart > MAX_LETTERS ? OTHER : WORD;
            } else if (isDigit(text[tokenStart])) {
                while (tokenEnd < length && isDigit(text[tokenEnd])) {
                    tokenEnd++;
                }
                tokenKind = tokenEnd - tokenStart > MAX_DIGITS ? OTHER : NUMBER;
            } else {
                tokenKind = text[tokenStart] == ';' ? SEMICOLON : OTHER;
                tokenEnd++;
            }
        }

        private static boolean isLetter(int symbol) {
            return symbol >= 'a' && symbol <= 'z' || symbol >= 'A' && symbol <= 'Z';
        }

        private static boolean isDigit(int symbol) {
            return symbol >= '0' && symbol <= '9';
        }
    }

    /** The folded graph of a subgroup, its vertices in the order of the breadth-first search. */
    private static final class Graph {
        final int[] table = new int[MAX_VERTICES * CODES];
        final int[] parents = new int[MAX_VERTICES];
        final int[] parentCodes = new int[MAX_VERTICES];
        final int[] depths = new int[MAX_VERTICES];
        int vertices = 1;
        int edges;
        boolean isStale = true;

        int follow(int vertex, int code) {
            return table[vertex * CODES + code];
        }

        int cycleRank() {
            return edges - vertices + 1;
        }

        boolean isComplete(int rank) {
            for (int vertex = 0; vertex < vertices; vertex++) {
                for (int code = 0; code < 2 * rank; code++) {
                    if (follow(vertex, code) == NONE) {
                        return false;
                    }
                }
            }
            return true;
        }

        int trace(int start, Word word, int from, int end) {
            int at = start;
            for (int i = from; i < end && at != NONE; i++) {
                at = follow(at, word.codes[i]);
            }
            return at;
        }

        boolean isClosedPath(int start, Word word) {
            return trace(start, word, 0, word.length) == start;
        }

        boolean isClosedEverywhere(Word word) {
            for (int vertex = 0; vertex < vertices; vertex++) {
                if (!isClosedPath(vertex, word)) {
                    return false;
                }
            }
            return true;
        }

        // A reduced power is the letters before the core, the power of the core, and the inverse of
        // those letters. In a folded graph it is closed exactly if the power of the core is, and the
        // core maps vertices one to one, so it comes back within as many steps as there are vertices.
        int smallestClosedPower(Word word) {
            int coreStart = word.coreStart();
            int start = trace(0, word, 0, coreStart);
            int at = start;
            for (int exponent = 1; exponent <= vertices && at != NONE; exponent++) {
                at = trace(at, word, coreStart, word.length - coreStart);
                if (at != NONE && at == start) {
                    return exponent;
                }
            }
            return NONE;
        }

        // Puts the inverse of the representative of a vertex.
        void putWayBack(Word target, int vertex) {
            int at = vertex;
            for (int left = depths[vertex]; left > 0; left--) {
                target.put(parentCodes[at] ^ 1);
                at = parents[at];
            }
        }

        // The start vertex and the code of the edge, as in the table; the number is below the rank.
        int remainingEdge(int number) {
            int before = 0;
            for (int vertex = 0; vertex < vertices; vertex++) {
                for (int code = 0; code < CODES; code += 2) {
                    if (follow(vertex, code) != NONE && !isTreeEdge(vertex, code)) {
                        if (before == number) {
                            return vertex * CODES + code;
                        }
                        before++;
                    }
                }
            }
            return 0;
        }

        private boolean isTreeEdge(int start, int code) {
            int end = follow(start, code);
            boolean leadsThere = end > 0 && parents[end] == start && parentCodes[end] == code;
            boolean leadsBack = start > 0 && parents[start] == end && parentCodes[start] == (code ^ 1);
            return leadsThere || leadsBack;
        }
    }

    /** Makes the folded graph of generating words. */
    private static final class Folding {
        // A union of two vertices moves at most one edge for each letter.
        private static final int MAX_COINCIDENCES = 1 + MAX_VERTICES * CODES;

        private final int[] table = new int[MAX_VERTICES * CODES];
        private final int[] mergedInto = new int[MAX_VERTICES];
        private int used;
        private final int[] lefts = new int[MAX_COINCIDENCES];
        private final int[] rights = new int[MAX_COINCIDENCES];
        private int coincidences;
        private final int[] numbers = new int[MAX_VERTICES];
        private final int[] found = new int[MAX_VERTICES];

        void fold(State state, int subgroup, Graph graph) {
            Arrays.fill(table, NONE);
            used = 0;
            makeVertex();
            for (int i = 0; i < state.wordCounts[subgroup]; i++) {
                addClosedPath(state.generatingWord(subgroup, i));
                mergeCoincidences();
            }
            numberVertices(graph);
        }

        private int makeVertex() {
            if (used >= MAX_VERTICES) {
                return 0;
            }
            mergedInto[used] = used;
            used++;
            return used - 1;
        }

        // Edges that are there already are used again: this folds the beginning of the path at once.
        private void addClosedPath(Word word) {
            int at = 0;
            int last = word.length - 1;
            for (int i = 0; i < last; i++) {
                int code = word.codes[i];
                int next = table[at * CODES + code];
                if (next == NONE) {
                    next = makeVertex();
                    connect(at, code, next);
                }
                at = next;
            }
            if (last >= 0) {
                connect(at, word.codes[last], 0);
            }
        }

        private void connect(int from, int code, int to) {
            int there = table[from * CODES + code];
            int back = table[to * CODES + (code ^ 1)];
            if (there != NONE) {
                putCoincidence(there, to);
            } else if (back != NONE) {
                putCoincidence(back, from);
            } else {
                table[from * CODES + code] = to;
                table[to * CODES + (code ^ 1)] = from;
            }
        }

        private void putCoincidence(int left, int right) {
            if (coincidences < MAX_COINCIDENCES) {
                lefts[coincidences] = left;
                rights[coincidences] = right;
                coincidences++;
            }
        }

        // The list grows while it is walked through, but only by unions, each of which ends a vertex.
        private void mergeCoincidences() {
            for (int i = 0; i < coincidences && i < MAX_COINCIDENCES; i++) {
                int left = survivorOf(lefts[i]);
                int right = survivorOf(rights[i]);
                if (left != right) {
                    mergeVertices(Math.min(left, right), Math.max(left, right));
                }
            }
            coincidences = 0;
        }

        private int survivorOf(int vertex) {
            int at = vertex;
            for (int i = 0; i < MAX_VERTICES && mergedInto[at] != at; i++) {
                mergedInto[at] = mergedInto[mergedInto[at]];
                at = mergedInto[at];
            }
            return at;
        }

        // The smaller number is kept, so that the base vertex keeps the number 0.
        private void mergeVertices(int kept, int dropped) {
            mergedInto[dropped] = kept;
            for (int code = 0; code < CODES; code++) {
                int to = table[dropped * CODES + code];
                if (to != NONE) {
                    table[dropped * CODES + code] = NONE;
                    table[to * CODES + (code ^ 1)] = NONE;
                    connect(kept, code, to == dropped ? kept : to);
                }
            }
        }

        private void numberVertices(Graph graph) {
            Arrays.fill(numbers, NONE);
            numbers[0] = 0;
            found[0] = 0;
            graph.vertices = 1;
            graph.edges = 0;
            for (int vertex = 0; vertex < graph.vertices && vertex < MAX_VERTICES; vertex++) {
                for (int code = 0; code < CODES; code++) {
                    int to = table[found[vertex] * CODES + code];
                    if (to != NONE && numbers[to] == NONE) {
                        reach(graph, to, vertex, code);
                    }
                    if (to != NONE && !isInverse(code)) {
                        graph.edges++;
                    }
                    graph.table[vertex * CODES + code] = to == NONE ? NONE : numbers[to];
                }
            }
        }

        private void reach(Graph graph, int to, int parent, int code) {
            int number = graph.vertices;
            if (number < MAX_VERTICES) {
                numbers[to] = number;
                found[number] = to;
                graph.parents[number] = parent;
                graph.parentCodes[number] = code;
                graph.depths[number] = graph.depths[parent] + 1;
                graph.vertices = number + 1;
            }
        }
    }

    /** Searches the pairs of vertices that can be reached from the pair of the base vertices. */
    private static final class Intersection {
        private final boolean[] isReached = new boolean[MAX_PAIRS];
        private final int[] reached = new int[MAX_PAIRS];
        int pairs;
        int edges;
        boolean isStale = true;

        void search(Graph left, Graph right) {
            pairs = 0;
            edges = 0;
            reach(0);
            for (int i = 0; i < pairs && i < MAX_PAIRS; i++) {
                reachNeighbours(left, right, reached[i]);
            }
            for (int i = 0; i < pairs; i++) {
                isReached[reached[i]] = false;
            }
        }

        private void reachNeighbours(Graph left, Graph right, int pair) {
            for (int code = 0; code < CODES; code++) {
                int first = left.follow(pair / MAX_VERTICES, code);
                int second = right.follow(pair % MAX_VERTICES, code);
                if (first != NONE && second != NONE) {
                    edges += isInverse(code) ? 0 : 1;
                    reach(first * MAX_VERTICES + second);
                }
            }
        }

        private void reach(int pair) {
            if (!isReached[pair] && pairs < MAX_PAIRS) {
                isReached[pair] = true;
                reached[pairs] = pair;
                pairs++;
            }
        }
    }

    /**
     * The Magnus expansion of a word. The terms stand like the nodes of a tree: 4 * n + 1 + i is the
     * place of the term at the place n times x_i.
     */
    private static final class Magnus {
        private static final int INNER_TERMS = 1 + 4 + 16 + 64;
        private static final int TERMS = INNER_TERMS + 256;

        private final long[] coefficients = new long[TERMS];

        void expand(Word word) {
            Arrays.fill(coefficients, 0L);
            coefficients[0] = 1;
            for (int i = 0; i < word.length; i++) {
                int generator = word.codes[i] / 2;
                if (isInverse(word.codes[i])) {
                    divideBy(generator);
                } else {
                    multiplyBy(generator);
                }
            }
        }

        // Backwards, so that every term is used before it changes.
        private void multiplyBy(int generator) {
            for (int i = INNER_TERMS - 1; i >= 0; i--) {
                coefficients[MAX_RANK * i + 1 + generator] += coefficients[i];
            }
        }

        // The quotient by 1 + x_i is the product with 1 - x_i + x_i^2 - ..., and needs each term's new value.
        private void divideBy(int generator) {
            for (int i = 0; i < INNER_TERMS; i++) {
                coefficients[MAX_RANK * i + 1 + generator] -= coefficients[i];
            }
        }

        long norm(int degree) {
            int start = 0;
            int count = 1;
            for (int i = 0; i < degree; i++) {
                start += count;
                count *= MAX_RANK;
            }
            long sum = 0;
            for (int i = start; i < start + count && i < TERMS; i++) {
                sum += Math.abs(coefficients[i]);
            }
            return sum;
        }

        int quadraticCoefficient(int first, int second) {
            return (int) coefficients[MAX_RANK * (1 + first) + 1 + second];
        }
    }

    /** The formatted text. */
    private static final class FormattedText {
        final char[] characters = new char[MAX_FORMATTED];
        int length;

        void writeLetters(Word word) {
            length = 0;
            for (int i = 0; i < word.length; i++) {
                write(letterOfCode(word.codes[i]));
            }
        }

        void writeRuns(Word word) {
            length = 0;
            int run = 0;
            for (int i = 0; i < word.length; i++) {
                run++;
                if (i + 1 == word.length || word.codes[i + 1] != word.codes[i]) {
                    writeRun(word.codes[i], run);
                    run = 0;
                }
            }
            if (length == 0) {
                write('1');
            }
        }

        private void writeRun(int code, int run) {
            write(letterOfCode(code & ~1));
            if (isInverse(code)) {
                write('-');
            }
            if (isInverse(code) || run > 1) {
                writeNumber(run);
            }
        }

        // A run has at most 60 letters.
        private void writeNumber(int number) {
            if (number >= 10) {
                write((char) ('0' + number / 10));
            }
            write((char) ('0' + number % 10));
        }

        private void write(char character) {
            if (length < MAX_FORMATTED) {
                characters[length] = character;
                length++;
            }
        }
    }
}
