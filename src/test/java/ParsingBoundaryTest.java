import java.nio.charset.StandardCharsets;

/** The boundary cases of promises 1 to 7 and of the text format, each over its whole range. */
public final class ParsingBoundaryTest {
    private static final int SYNTAX = FreeGroupCalculator.SYNTAX_ERROR;
    private static final int RANGE = FreeGroupCalculator.NUMBER_OUT_OF_RANGE;
    private static final int UNKNOWN = FreeGroupCalculator.UNKNOWN_GENERATOR;
    private static final int LONG = FreeGroupCalculator.WORD_TOO_LONG;
    private static final int MANY = FreeGroupCalculator.TOO_MANY;
    private static final int CORRECT = FreeGroupCalculator.NO_ERROR;
    private static final int NONE = FreeGroupCalculator.NONE;
    private static final String SIXTY = "a".repeat(60);

    public static void main(String[] args) {
        orderOfBytes();
        fullBuffer();
        lengthsToTruncateTo();
        bytesBetweenTokens();
        bytesBesideItems();
        numbers();
        bytesInPlaceOfNumbers();
        numbersInPlaceOfItems();
        runsOfLetters();
        runsOfDigits();
        lettersOfTheGroup();
        longProducts();
        tooManyWords();
        smallestKind();
        statementsInTheirOrder();
        everyEarlyEnd();
        everyChangedByte();
        sixHundredBytes();
        oneLoadAfterAnother();
        Check.end();
    }

    private static FreeGroupCalculator answered(String text, int kind, int position) {
        FreeGroupCalculator x = new FreeGroupCalculator();
        Check.put(x, text);
        if (kind == CORRECT) {
            Check.same("load of " + text, x.load() >= 1, true);
        } else {
            Check.fails("load of " + text, IllegalArgumentException.class, x::load);
        }
        Check.same("errorKind of " + text, x.errorKind(), kind);
        Check.same("errorPosition of " + text, x.errorPosition(), position);
        return x;
    }

    private static void correct(String text) {
        answered(text, CORRECT, NONE);
    }

    // ---- the input buffer

    private static void orderOfBytes() {
        for (int place = 0; place < 40; place++) {
            byte[] text = " ".repeat(40).getBytes();
            text[place] = (byte) 200;
            FreeGroupCalculator x = new FreeGroupCalculator();
            Check.same("20 bytes", x.append(Check.four(text, 0), Check.four(text, 4), Check.four(text, 8),
                    Check.four(text, 12), Check.four(text, 16)), 20);
            Check.same("40 bytes", x.append(Check.four(text, 20), Check.four(text, 24), Check.four(text, 28),
                    Check.four(text, 32), Check.four(text, 36)), 40);
            Check.fails("a byte at " + place, IllegalArgumentException.class, x::load);
            Check.same("the place of a byte", x.errorPosition(), place);
        }
    }

    private static void fullBuffer() {
        for (int length = 560; length <= 600; length++) {
            FreeGroupCalculator x = new FreeGroupCalculator();
            Check.put(x, "a".repeat(600));
            x.truncate(length);
            if (length <= 580) {
                Check.same("append to " + length, x.append(0, 0, 0, 0, 0), length + 20);
            } else {
                Check.fails("append to " + length, IllegalStateException.class, () -> x.append(0, 0, 0, 0, 0));
                x.truncate(length);
            }
        }
    }

    private static void lengthsToTruncateTo() {
        for (int length : new int[] {0, 1, 19, 20, 599, 600}) {
            FreeGroupCalculator x = new FreeGroupCalculator();
            Check.put(x, "b".repeat(600));
            x.truncate(length);
            for (int bad : new int[] {-1, length + 1, 601, Integer.MIN_VALUE, Integer.MAX_VALUE}) {
                Check.fails("truncate from " + length + " to " + bad, IllegalArgumentException.class, () -> {
                    x.truncate(bad);
                    return "no exception";
                });
            }
            x.truncate(length);
            x.truncate(0);
            x.truncate(0);
            Check.same("an empty buffer is the empty word", x.setRegister(0), 0);
        }
    }

    // ---- tokens

    private static void bytesBetweenTokens() {
        for (int symbol = 0; symbol < 256; symbol++) {
            boolean isSpace = symbol == 32 || symbol == 10;
            int due = isSpace ? CORRECT : SYNTAX;
            char c = (char) symbol;
            answered(c + "rank 1;", due, isSpace ? NONE : 0);
            answered("rank 1;" + c + "set 0 a;", due, isSpace ? NONE : 7);
            answered("rank 1;" + c, due, isSpace ? NONE : 7);
        }
    }

    private static void bytesBesideItems() {
        for (int symbol = 0; symbol < 256; symbol++) {
            char c = (char) symbol;
            boolean isItem = "abcdABCD \n1".indexOf(c) >= 0;
            boolean isOtherLetter = symbol < 128 && Character.isLetter(c) && !isItem;
            // A second semicolon is a token of its own, behind the statement.
            int position = c == ';' ? 16 : isOtherLetter ? 14 : 15;
            answered("rank 4; set 0 a" + c + ";", isItem ? CORRECT : isOtherLetter ? UNKNOWN : SYNTAX,
                    isItem ? NONE : position);
        }
    }

    private static void numbers() {
        for (int number = 0; number < 100; number++) {
            for (String written : new String[] {String.valueOf(number), number < 10 ? "0" + number : "" + number}) {
                boolean isRank = number >= 1 && number <= 4;
                answered("rank " + written + ";", isRank ? CORRECT : RANGE, isRank ? NONE : 5);
                boolean isRegister = number <= 7;
                answered("rank 1;set " + written + " a;", isRegister ? CORRECT : RANGE, isRegister ? NONE : 11);
                boolean isSubgroup = number <= 1;
                answered("rank 1;join " + written + " 0;", isSubgroup ? CORRECT : RANGE, isSubgroup ? NONE : 12);
                answered("rank 1;join 1 " + written + ";", isRegister ? CORRECT : RANGE, isRegister ? NONE : 14);
            }
        }
    }

    private static void bytesInPlaceOfNumbers() {
        for (int symbol = 0; symbol < 256; symbol++) {
            if (symbol != 32 && symbol != 10) {
                inPlaceOfNumber("rank ", (char) symbol, ";", 1, 4);
                inPlaceOfNumber("rank 1;set ", (char) symbol, " a;", 0, 7);
                inPlaceOfNumber("rank 1;join ", (char) symbol, " 0;", 0, 1);
                inPlaceOfNumber("rank 1;join 1 ", (char) symbol, ";", 0, 7);
            }
        }
    }

    private static void inPlaceOfNumber(String before, char symbol, String after, int least, int greatest) {
        boolean isDigit = symbol >= 48 && symbol <= 57;
        boolean isInRange = isDigit && symbol - 48 >= least && symbol - 48 <= greatest;
        answered(before + symbol + after, isInRange ? CORRECT : isDigit ? RANGE : SYNTAX,
                isInRange ? NONE : before.length());
    }

    private static void numbersInPlaceOfItems() {
        for (int number = 0; number < 100; number++) {
            for (String written : new String[] {String.valueOf(number), number < 10 ? "0" + number : "" + number}) {
                boolean isOne = written.equals("1");
                answered("rank 1;set 0 " + written + ";", isOne ? CORRECT : SYNTAX, isOne ? NONE : 13);
                answered("rank 1;set 0 a " + written + ";", isOne ? CORRECT : SYNTAX, isOne ? NONE : 15);
            }
        }
        answered("rank 1;set 0 1 1 1;", CORRECT, NONE);
        answered("rank 1;set 0 001;", SYNTAX, 13);
    }

    private static void runsOfLetters() {
        for (int length = 58; length <= 63; length++) {
            boolean isRun = length <= 60;
            String run = "a".repeat(length);
            answered("rank 1;set 0 " + run + ";", isRun ? CORRECT : SYNTAX, isRun ? NONE : 13);
            answered("rank 1;set 0 A " + run + ";", isRun ? CORRECT : SYNTAX, isRun ? NONE : 15);
            answered("rank 1;set 0 1" + run + ";", isRun ? CORRECT : SYNTAX, isRun ? NONE : 14);
            answered("rank 1;set 0 " + "e".repeat(length) + ";", isRun ? UNKNOWN : SYNTAX, 13);
            answered("rank 1;" + run, SYNTAX, 7);
            answered(run, SYNTAX, 0);
        }
        String cancelled = "aA".repeat(30);
        answered("rank 1;set 0 " + cancelled + ";", CORRECT, NONE);
        answered("rank 1;set 0 " + cancelled + "a;", SYNTAX, 13);
        answered("rank 1;set 0 " + cancelled + "\n" + cancelled + ";", CORRECT, NONE);
    }

    private static void runsOfDigits() {
        answered("rank 1;", CORRECT, NONE);
        answered("rank 01;", CORRECT, NONE);
        answered("rank 001;", SYNTAX, 5);
        answered("rank 0 1;", RANGE, 5);
        answered("rank 1 1;", SYNTAX, 7);
        answered("rank 1;set 07 a;", CORRECT, NONE);
        answered("rank 1;set 007 a;", SYNTAX, 11);
        answered("rank 1;join 01 07;", CORRECT, NONE);
        answered("rank 1;join 001 07;", SYNTAX, 12);
        answered("rank 1;join 01 007;", SYNTAX, 15);
        answered("rank 1;join 01", SYNTAX, 14);
        answered("rank 1;join 011;", SYNTAX, 12);
        answered("rank 99999999999;", SYNTAX, 5);
        answered("rank 4294967297;", SYNTAX, 5);
        answered("1", SYNTAX, 0);
        answered("001", SYNTAX, 0);
    }

    private static void lettersOfTheGroup() {
        for (int rank = 1; rank <= 4; rank++) {
            String letters = "aAbBcCdD".substring(0, 2 * rank);
            for (char c = 'A'; c <= 'z'; c++) {
                if (Character.isLetter(c)) {
                    boolean isKnown = letters.indexOf(c) >= 0;
                    answered("rank " + rank + ";set 0 a" + c + "a;", isKnown ? CORRECT : UNKNOWN, isKnown ? NONE : 13);
                }
            }
        }
    }

    // ---- the kinds of errors

    private static void longProducts() {
        for (int length = 1; length <= 60; length++) {
            String first = "a".repeat(length);
            correct("rank 2;set 0 " + first + (length < 60 ? " " + "b".repeat(60 - length) : " 1") + ";");
            answered("rank 2;set 0 " + first + " " + "b".repeat(61 - length) + ";", LONG, 14 + length);
        }
        answered("rank 1;set 0 " + SIXTY + " " + SIXTY + ";", LONG, 74);
        answered("rank 1;set 0 " + SIXTY + " 1 a;", LONG, 76);
        answered("rank 1;set 0 " + SIXTY + " a" + "A".repeat(59) + ";", CORRECT, NONE);
        answered("rank 1;set 0 " + SIXTY + " " + "A".repeat(60) + ";", CORRECT, NONE);
        answered("rank 1;set 0 " + SIXTY + " " + "a".repeat(30) + "A".repeat(29) + ";", LONG, 74);
        answered("rank 1;set 0 " + SIXTY + " Aa a;", LONG, 77);
        Check.same("60 letters on both ways", answered("rank 1;set 0 " + SIXTY + " " + "a".repeat(30)
                + "A".repeat(30) + ";", CORRECT, NONE).wordLength(0), 60);
        Check.same("each statement begins anew", answered("rank 1;set 0 " + SIXTY + ";set 0 " + SIXTY + ";", CORRECT,
                NONE).wordLength(0), 60);
    }

    private static void tooManyWords() {
        for (int subgroup = 0; subgroup < 2; subgroup++) {
            String join = "join " + subgroup + " 0;";
            for (int words = 0; words <= 6; words++) {
                Check.same("words", answered("rank 1;" + join.repeat(words), CORRECT, NONE)
                        .generatingWordCount(subgroup), words);
            }
            answered("rank 1;" + join.repeat(7), MANY, 7 + 6 * 9 + 5);
            answered("rank 1;" + join.repeat(8), MANY, 7 + 6 * 9 + 5);
            answered("rank 1;" + join.repeat(6) + "join 0" + subgroup + " 0;", MANY, 7 + 6 * 9 + 5);
            answered("rank 1;" + join.repeat(6) + "join " + (1 - subgroup) + " 0;", CORRECT, NONE);
            answered("rank 1;" + join.repeat(6) + "join " + (1 - subgroup) + " 8;", RANGE, 7 + 6 * 9 + 7);
        }
    }

    private static void smallestKind() {
        String full = "rank 1;" + "join 0 0;".repeat(6);
        answered(full + "join 000 0;", SYNTAX, 66);
        answered(full + "join a 0;", SYNTAX, 66);
        answered(full + "join 2 0;", RANGE, 66);
        answered(full + "join 0 8;", MANY, 66);
        answered("rank 000;", SYNTAX, 5);
        answered("rank 1;set 888 a;", SYNTAX, 11);
        answered("rank 1;set 0 " + SIXTY + " " + "b".repeat(60) + ";", UNKNOWN, 74);
        answered("rank 1;set 0 " + SIXTY + " " + "b".repeat(61) + ";", SYNTAX, 74);
        answered("rank 1;set 0 " + SIXTY + " " + "a".repeat(61) + ";", SYNTAX, 74);
        answered("rank 1;set 0 " + SIXTY + " 2;", SYNTAX, 74);
        answered("rank 5;set 8 b;", RANGE, 5);
        answered("rank 1;set 8 b;", RANGE, 11);
        answered("rank 1;set 0 b;set 8 b;", UNKNOWN, 13);
    }

    private static void statementsInTheirOrder() {
        FreeGroupCalculator x = answered("rank 2;join 1 0;set 0 aa;join 0 0;set 0 bb;join 0 0;set 0 1;", CORRECT, NONE);
        Check.same("the last setting", x.wordLength(0), 0);
        Check.same("the words at the time of the joins", x.vertexCount(0), 3);
        Check.same("their edges", x.edgeCount(0), 4);
        Check.same("the empty word of before", x.vertexCount(1), 1);
        Check.same("is a generating word", x.generatingWordCount(1), 1);
        answered("rank 2;set 0 a set 0 b;", UNKNOWN, 15);
        answered("rank 2;set 0 a;rank 2;", SYNTAX, 15);
        answered(";", SYNTAX, 0);
        answered("set 0 a;", SYNTAX, 0);
        answered("rank 2;set;", SYNTAX, 10);
        answered("rank 2;join;", SYNTAX, 11);
    }

    private static void everyEarlyEnd() {
        String text = " rank 2 ;\nset 07 ab 1 A ; join 1 07 ;\n";
        for (int length = 0; length <= text.length(); length++) {
            likeTheModel(text.substring(0, length));
        }
        for (String end : new String[] {"", " ", "rank", "rank 2", "rank 2;set", "rank 2;set 0", "rank 2;set 0 a",
            "rank 2;set 0 1", "rank 2;join", "rank 2;join 0", "rank 2;join 0 0"}) {
            answered(end, SYNTAX, end.length());
            answered(end + " \n", SYNTAX, end.length() + 2);
        }
    }

    private static void everyChangedByte() {
        String text = "rank 2;set 7 ab 1 A;join 1 7;\nset 0 b;";
        for (int place = 0; place < text.length(); place++) {
            for (char mark : "019 \n;abcBnrz-".toCharArray()) {
                likeTheModel(text.substring(0, place) + mark + text.substring(place));
            }
            likeTheModel(text.substring(0, place) + text.substring(place + 1));
        }
        for (int place = 0; place < text.length(); place++) {
            String[] changed = new String[256];
            for (int symbol = 0; symbol < 256; symbol++) {
                changed[symbol] = text.substring(0, place) + (char) symbol + text.substring(place + 1);
            }
            oneAfterAnother(changed);
        }
    }

    // Each object loads some forty texts, so that a text with an error meets what the texts before it have left.
    private static void oneAfterAnother(String[] texts) {
        FreeGroupCalculator x = new FreeGroupCalculator();
        PlainModel model = new PlainModel();
        for (int i = 0; i < texts.length; i++) {
            if (i % 40 == 0) {
                x = new FreeGroupCalculator();
                model = new PlainModel();
            }
            boolean isCorrect = loadsInModel(model, texts[i]);
            Check.put(x, texts[i]);
            if (isCorrect) {
                Check.same("load of " + texts[i], x.load(), model.groupRank());
            } else {
                Check.fails("load of " + texts[i], IllegalArgumentException.class, x::load);
            }
            sameAsModel(texts[i], x, model);
        }
    }

    private static boolean loadsInModel(PlainModel model, String text) {
        byte[] bytes = text.getBytes(StandardCharsets.ISO_8859_1);
        for (int i = 0; i < bytes.length; i += 20) {
            model.append(Check.four(bytes, i), Check.four(bytes, i + 4), Check.four(bytes, i + 8),
                    Check.four(bytes, i + 12), Check.four(bytes, i + 16));
        }
        model.truncate(bytes.length);
        try {
            model.load();
            return true;
        } catch (IllegalArgumentException e) {
            return false;
        }
    }

    private static void likeTheModel(String text) {
        oneAfterAnother(new String[] {text});
    }

    private static void sameAsModel(String text, FreeGroupCalculator x, PlainModel model) {
        Check.same("errorKind of " + text, x.errorKind(), model.errorKind());
        Check.same("errorPosition of " + text, x.errorPosition(), model.errorPosition());
        Check.same("rank after " + text, x.groupRank(), model.groupRank());
        Check.same("register 0 after " + text, x.wordLength(0), model.wordLength(0));
        Check.same("register 7 after " + text, x.wordLength(7), model.wordLength(7));
        Check.same("words after " + text, x.generatingWordCount(1), model.generatingWordCount(1));
    }

    // ---- whole texts

    private static void sixHundredBytes() {
        String statement = "set 0 a;";
        correct("rank 1;" + " ".repeat(600 - 7 - statement.length()) + statement);
        correct("rank 1;" + statement.repeat(74) + " ");
        correct("\n".repeat(593) + "rank 1;");
        answered("rank 1;" + " ".repeat(585) + "set 0 aa", SYNTAX, 600);
        answered("rank 1;" + " ".repeat(592) + "?", SYNTAX, 599);
        answered("rank 1;set 0" + " a".repeat(60) + ";" + " ".repeat(467), CORRECT, NONE);
        answered("rank 1;set 0" + " aA".repeat(195) + ";;", SYNTAX, 598);
        answered("rank 1;set 0 " + "1 ".repeat(290) + "1;;", SYNTAX, 595);
        correct("rank 1;set 0" + " 1".repeat(293) + ";");
        answered("rank 1;set 0" + " 1".repeat(294), SYNTAX, 600);
    }

    private static void oneLoadAfterAnother() {
        FreeGroupCalculator x = new FreeGroupCalculator();
        String[] texts = {"rank 2;set 0 c;", "rank 9;", "", "rank 4;", "x", "rank 1;set 0 a;", "rank 3"};
        int[] kinds = {UNKNOWN, RANGE, SYNTAX, CORRECT, SYNTAX, CORRECT, SYNTAX};
        int[] positions = {13, 5, 0, NONE, 0, NONE, 6};
        int[] ranks = {2, 2, 2, 4, 4, 1, 1};
        for (int i = 0; i < texts.length; i++) {
            Check.put(x, texts[i]);
            if (kinds[i] == CORRECT) {
                Check.same("load", x.load(), ranks[i]);
            } else {
                Check.fails("load", IllegalArgumentException.class, x::load);
            }
            Check.same("the latest kind", x.errorKind(), kinds[i]);
            Check.same("the latest position", x.errorPosition(), positions[i]);
            Check.same("rank", x.groupRank(), ranks[i]);
            Check.same("the buffer is empty afterwards", x.append(0, 0, 0, 0, 0), 20);
            x.truncate(0);
        }
        Check.fails("bytes of the loaded text do not come back", IllegalArgumentException.class, () -> {
            x.truncate(1);
            return "no exception";
        });
    }
}
