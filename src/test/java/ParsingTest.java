/** Promises 1 to 6: a new object, append, truncate, load, errorKind, errorPosition. */
public final class ParsingTest {
    private static final int SYNTAX = FreeGroupCalculator.SYNTAX_ERROR;
    private static final int RANGE = FreeGroupCalculator.NUMBER_OUT_OF_RANGE;
    private static final int UNKNOWN = FreeGroupCalculator.UNKNOWN_GENERATOR;
    private static final int LONG = FreeGroupCalculator.WORD_TOO_LONG;
    private static final int MANY = FreeGroupCalculator.TOO_MANY;

    public static void main(String[] args) {
        newObject();
        append();
        truncate();
        correctTexts();
        syntaxErrors();
        earlyEnds();
        otherErrors();
        whatLoadChanges();
        nothingOfTheLoadBefore();
        answersThatAreReadTwice();
        twoObjects();
        Check.end();
    }

    private static void newObject() {
        FreeGroupCalculator x = new FreeGroupCalculator();
        Check.same("rank", x.groupRank(), 2);
        Check.same("errorKind", x.errorKind(), FreeGroupCalculator.NO_ERROR);
        Check.same("errorPosition", x.errorPosition(), FreeGroupCalculator.NONE);
        for (int i = 0; i < 8; i++) {
            Check.same("new register", x.wordLength(i), 0);
        }
        for (int i = 0; i < 2; i++) {
            Check.same("new subgroup", x.generatingWordCount(i), 0);
        }
        Check.fails("nothing to undo", IllegalStateException.class, x::undo);
        Check.fails("nothing saved", IllegalStateException.class, x::restore);
        Check.noSuchNumber("no formatted text", () -> x.formattedCharacter(0));
        Check.fails("empty buffer", IllegalArgumentException.class, x::load);
        Check.same("errorPosition of an empty buffer", x.errorPosition(), 0);
    }

    private static void append() {
        FreeGroupCalculator x = new FreeGroupCalculator();
        Check.same("append", x.append(0x61626162, 0x42414241, 0x61616161, 0x62616261, 0x62626262), 20);
        Check.same("all bytes in their order", x.setRegister(0), 12);
        Check.same("word", Check.word(x, 0), "aaaabababbbb");
        Check.same("high bytes", x.append(0xffffffff, 0x80000000, 0, -1, Integer.MIN_VALUE), 20);
        Check.fails("high bytes are no letters", IllegalArgumentException.class, () -> x.setRegister(0));
        for (int i = 2; i <= 30; i++) {
            Check.same("append", x.append(0, 0, 0, 0, 0), 20 * i);
        }
        Check.fails("full", IllegalStateException.class, () -> x.append(0, 0, 0, 0, 0));
        x.truncate(581);
        Check.fails("one byte too many", IllegalStateException.class, () -> x.append(0, 0, 0, 0, 0));
        x.truncate(580);
        Check.same("just enough room", x.append(0, 0, 0, 0, 0), 600);
        FreeGroupCalculator y = new FreeGroupCalculator();
        Check.put(y, "abAAb" + "aA".repeat(290) + "BaaBA" + "aA".repeat(5));
        Check.fails("full", IllegalStateException.class, () -> y.append(-1, -1, -1, -1, -1));
        Check.same("a refused call leaves each byte as it is", y.setRegister(0), 0);
        Check.put(y, "aabbc" + " ".repeat(580));
        Check.fails("full", IllegalStateException.class, () -> y.append(-1, -1, -1, -1, -1));
        y.truncate(4);
        Check.same("the first bytes too", y.setRegister(0), 4);
        Check.same("word", Check.word(y, 0), "aabb");
    }

    private static void truncate() {
        FreeGroupCalculator x = new FreeGroupCalculator();
        x.append(0x61616161, 0x62626262, 0x41414141, 0x42424242, 0x61626162);
        Check.fails("too long", IllegalArgumentException.class, () -> truncated(x, 21));
        Check.fails("negative", IllegalArgumentException.class, () -> truncated(x, -1));
        Check.fails("least", IllegalArgumentException.class, () -> truncated(x, Integer.MIN_VALUE));
        Check.fails("greatest", IllegalArgumentException.class, () -> truncated(x, Integer.MAX_VALUE));
        x.truncate(20);
        x.truncate(5);
        Check.fails("no bytes come back", IllegalArgumentException.class, () -> truncated(x, 6));
        Check.same("the first bytes stay", x.setRegister(3), 5);
        Check.same("word", Check.word(x, 3), "aaaab");
        x.truncate(0);
    }

    private static Object truncated(FreeGroupCalculator x, int length) {
        x.truncate(length);
        return "no exception";
    }

    private static void correctTexts() {
        for (int rank = 1; rank <= 4; rank++) {
            Check.same("rank", Check.loaded("rank " + rank + ";").groupRank(), rank);
        }
        Check.same("leading zero", Check.loaded("rank04;").groupRank(), 4);
        FreeGroupCalculator x = Check.loaded(
                " \n rank 3;set 0 a b 1 B A c;set1aC1cb;\nset 07 aa Ab cC ;join 0 7;set 7 1;join 1 7;join 01 00 ; \n");
        Check.same("product of items", Check.word(x, 0), "c");
        Check.same("no spaces needed", Check.word(x, 1), "ab");
        Check.same("set again", Check.word(x, 7), "");
        Check.same("joined", x.generatingWordCount(0), 1);
        Check.same("joined twice", x.generatingWordCount(1), 2);
        Check.same("the word at the time of the join", x.edgeCount(0), 2);
        Check.same("not set", Check.word(x, 2), "");
        Check.same("60 letters", Check.loaded("rank 1;set 2 " + "a".repeat(60) + ";").wordLength(2), 60);
        FreeGroupCalculator y = Check.loaded("rank 1;set 2 " + "a".repeat(60) + " " + "aA".repeat(30) + " "
                + "a".repeat(30) + "A".repeat(30) + ";");
        Check.same("longer only on the way", y.wordLength(2), 60);
        String six = "join 0 0;".repeat(6);
        Check.same("six words each", Check.loaded("rank 1;" + six + "join 1 0;".repeat(6)).generatingWordCount(1), 6);
        String whole = "rank 1;" + " ".repeat(591) + "\n\n";
        Check.same("600 bytes", Check.loaded(whole).groupRank(), 1);
    }

    private static void syntaxErrors() {
        error("rank 2", SYNTAX, 6);
        error("   ", SYNTAX, 3);
        error("rank 2 \n ", SYNTAX, 9);
        error("rank", SYNTAX, 4);
        error("Rank 2;", SYNTAX, 0);
        error(" ranks 2;", SYNTAX, 1);
        error("ran 2;", SYNTAX, 0);
        error("2;", SYNTAX, 0);
        error("rank a;", SYNTAX, 5);
        error("rank ;", SYNTAX, 5);
        error("rank 123;", SYNTAX, 5);
        error("rank 2 2;", SYNTAX, 7);
        error("rank 2;;", SYNTAX, 7);
        error("rank 2; rank 2;", SYNTAX, 8);
        error("rank 2; a;", SYNTAX, 8);
        error("rank 2; 1;", SYNTAX, 8);
        error("rank 2; SET 0 a;", SYNTAX, 8);
        error("rank 2; set", SYNTAX, 11);
        error("rank 2; set a a;", SYNTAX, 12);
        error("rank 2; set 0 ;", SYNTAX, 14);
        error("rank 2; set 0 ", SYNTAX, 14);
        error("rank 2; set 0 a", SYNTAX, 15);
        error("rank 2; set 0 01;", SYNTAX, 14);
        error("rank 2; set 0 0;", SYNTAX, 14);
        error("rank 2; set 0 2;", SYNTAX, 14);
        error("rank 2; set 0 11;", SYNTAX, 14);
        error("rank 2; set 0 a 111;", SYNTAX, 16);
        error("rank 2; set 0 a-;", SYNTAX, 15);
        error("rank 2; set 000 a;", SYNTAX, 12);
        error("rank 2; set 0 " + "a".repeat(61) + ";", SYNTAX, 14);
        error("rank 2; set 0 " + "z".repeat(61) + ";", SYNTAX, 14);
        error("z".repeat(61), SYNTAX, 0);
        error("rank 2; join 0;", SYNTAX, 14);
        error("rank 2; join 0 0 0;", SYNTAX, 17);
        error("rank 2; join a 0;", SYNTAX, 13);
        error("rank 2; join 0 a;", SYNTAX, 15);
        error("rank 2; join 0 0", SYNTAX, 16);
        error("rank 2; join 0 100;", SYNTAX, 15);
        error("rank\t2;", SYNTAX, 4);
        error("rank 2;\r", SYNTAX, 7);
        error("rank 2;\u00e9", SYNTAX, 7);
        error("rank 2;\u0000", SYNTAX, 7);
        error("ra[k 2;", SYNTAX, 0);
        error("rank 2; set 0 a@;", SYNTAX, 15);
        error("rank 2; set 0 a`;", SYNTAX, 15);
        error("rank 2; set 0 a{;", SYNTAX, 15);
        error("rank 2; set 0 a/;", SYNTAX, 15);
        error("rank 2; set 0 a:;", SYNTAX, 15);
    }

    // The buffer may hold bytes behind its length, from before it was shortened.
    private static void earlyEnds() {
        String text = "rank 2;set 11 aaaa 11;";
        for (int length = 0; length < 12; length++) {
            FreeGroupCalculator x = new FreeGroupCalculator();
            Check.put(x, text);
            int end = length;
            x.truncate(end);
            if (end == 7) {
                Check.same("a text without statements", x.load(), 2);
                continue;
            }
            Check.fails("cut at " + end, IllegalArgumentException.class, x::load);
            int due = end < 4 ? 0 : end > 7 && end < 10 ? 7 : end;
            Check.same("cut at " + end, x.errorPosition(), due);
        }
        error("rank 2;" + " ".repeat(592) + "a", SYNTAX, 599);
        error("rank 2;" + " ".repeat(590) + "set", SYNTAX, 600);
        error("rank 2;" + " ".repeat(588) + "set 1", SYNTAX, 600);
        error("rank 2;" + " ".repeat(586) + "set 1 a", SYNTAX, 600);
        error(" ".repeat(600), SYNTAX, 600);
    }

    private static void otherErrors() {
        error("rank 0;", RANGE, 5);
        error("rank 5", RANGE, 5);
        error("rank 99 x", RANGE, 5);
        error("rank 2; set 8 a;", RANGE, 12);
        error("rank 2; set 99", RANGE, 12);
        error("rank 2; join 2 9;", RANGE, 13);
        error("rank 2; join 1 8;", RANGE, 15);
        error("rank 2; set 0 c;", UNKNOWN, 14);
        error("rank 2; set 0 a bC;", UNKNOWN, 16);
        error("rank 1; set 0 B;", UNKNOWN, 14);
        error("rank 4; set 0 abcdABCD e;", UNKNOWN, 23);
        error("rank 2; set 0 set;", UNKNOWN, 14);
        error("rank 2; set 0 z;", UNKNOWN, 14);
        error("rank 2; set 0 Z;", UNKNOWN, 14);
        error("rank 2; set 0 a join 0 0;", UNKNOWN, 16);
        String sixty = "a".repeat(60);
        error("rank 1; set 0 " + sixty + " a;", LONG, 75);
        error("rank 1; set 0 " + sixty + " a", LONG, 75);
        error("rank 1; set 0 " + sixty + " a A;", LONG, 75);
        error("rank 1; set 0 " + sixty + " ab;", UNKNOWN, 75);
        String six = "join 0 0;".repeat(6);
        error("rank 2;" + six + "join 0 0;", MANY, 66);
        error("rank 2;" + six + "join 0 9;", MANY, 66);
        error("rank 2;" + six + "join 00", MANY, 66);
        error("rank 2;" + six + "join 2 0;", RANGE, 66);
        error("rank 2;" + six + "join 1 9;", RANGE, 68);
    }

    private static void error(String text, int kind, int position) {
        FreeGroupCalculator x = new FreeGroupCalculator();
        Check.put(x, text);
        Check.fails(text, IllegalArgumentException.class, x::load);
        Check.same("errorKind of " + text, x.errorKind(), kind);
        Check.same("errorPosition of " + text, x.errorPosition(), position);
    }

    private static void whatLoadChanges() {
        FreeGroupCalculator x = Check.loaded("rank 3; set 0 abc; set 5 bb; join 0 5;");
        Check.same("graph before", x.vertexCount(0), 2);
        Check.same("intersection before", x.intersectionRank(), 0);
        x.save();
        x.setInverse(1, 0);
        x.formatWord(1);
        Check.put(x, "rank 4; set 0 d; join 1 0; join 1 0; set 1 e;");
        Check.fails("error", IllegalArgumentException.class, x::load);
        Check.same("rank stays", x.groupRank(), 3);
        Check.same("register stays", Check.word(x, 0), "abc");
        Check.same("subgroup stays", x.generatingWordCount(0), 1);
        Check.same("other subgroup stays", x.generatingWordCount(1), 0);
        Check.same("buffer is empty after an error", x.append(0, 0, 0, 0, 0), 20);
        x.truncate(0);
        Check.same("undo stays", x.undo(), 0);
        Check.same("saved state stays", x.restore(), 5);
        Check.same("kind stays until the next load", x.errorKind(), UNKNOWN);
        Check.same("position", x.errorPosition(), 43);
        Check.put(x, "rank 1; set 2 a; join 1 2;");
        Check.same("load", x.load(), 1);
        Check.same("rank", x.groupRank(), 1);
        Check.same("buffer is empty", x.append(0, 0, 0, 0, 0), 20);
        Check.same("kind", x.errorKind(), FreeGroupCalculator.NO_ERROR);
        Check.same("position", x.errorPosition(), FreeGroupCalculator.NONE);
        Check.same("a register that the text does not set", Check.word(x, 0), "");
        Check.same("a subgroup that the text does not join", x.generatingWordCount(0), 0);
        Check.same("its graph", x.vertexCount(0), 1);
        Check.same("the other graph", x.edgeCount(1), 1);
        x.truncate(0);
        Check.put(x, "rank 1; set 2 a; join 0 2; join 1 2;");
        x.load();
        Check.same("graphs and their intersection are new", x.intersectionRank(), 1);
        Check.fails("no undo over a load", IllegalStateException.class, x::undo);
        Check.fails("no saved state over a load", IllegalStateException.class, x::restore);
        Check.same("the formatted text stays", Check.formatted(x, 9), "c-1b-1a-1");
    }

    private static void nothingOfTheLoadBefore() {
        StringBuilder text = new StringBuilder("rank 4;");
        for (int register = 0; register < 8; register++) {
            text.append("set ").append(register).append(" dcba;join ").append(register % 2).append(" 0;");
        }
        FreeGroupCalculator x = Check.loaded(text.toString());
        Check.same("all registers", x.save(), 8 * 4);
        Check.same("words of subgroup 0", x.generatingWordCount(0), 4);
        Check.same("words of subgroup 1", x.generatingWordCount(1), 4);
        Check.same("vertices", x.vertexCount(1), 4);
        Check.put(x, "rank 1;");
        x.load();
        for (int register = 0; register < 8; register++) {
            Check.same("register " + register, x.wordLength(register), 0);
        }
        for (int subgroup = 0; subgroup < 2; subgroup++) {
            Check.same("words of subgroup " + subgroup, x.generatingWordCount(subgroup), 0);
            Check.same("vertices of subgroup " + subgroup, x.vertexCount(subgroup), 1);
            Check.same("edges of subgroup " + subgroup, x.edgeCount(subgroup), 0);
        }
        Check.same("letters in all registers", x.save(), 0);
    }

    private static void answersThatAreReadTwice() {
        FreeGroupCalculator x = new FreeGroupCalculator();
        Check.put(x, "rank 2;set 9 a;");
        Check.fails("error", IllegalArgumentException.class, x::load);
        for (int i = 0; i < 3; i++) {
            Check.same("kind", x.errorKind(), RANGE);
            Check.same("position", x.errorPosition(), 11);
            Check.same("rank", x.groupRank(), 2);
        }
    }

    // Calls of one object between those of another one.
    private static void twoObjects() {
        FreeGroupCalculator x = new FreeGroupCalculator();
        FreeGroupCalculator y = new FreeGroupCalculator();
        Check.put(x, "rank 4;set 0 dd;set 1 ab;join 0 0;");
        Check.put(y, "rank 1;set 0 b;");
        Check.same("the text of the first object", x.load(), 4);
        Check.fails("the text of the second object", IllegalArgumentException.class, y::load);
        Check.same("kind of the second object", y.errorKind(), UNKNOWN);
        Check.same("kind of the first object", x.errorKind(), FreeGroupCalculator.NO_ERROR);
        Check.same("position of the first object", x.errorPosition(), FreeGroupCalculator.NONE);
        Check.same("rank of the second object", y.groupRank(), 2);
        x.save();
        y.save();
        y.setInverse(1, 0);
        x.formatWord(1);
        y.formatWord(1);
        Check.same("the formatted text of the first object", Check.formatted(x, 2), "ab");
        Check.fails("no edit of the first object", IllegalStateException.class, x::undo);
        Check.same("the edit of the second object", y.undo(), 0);
        Check.put(x, "dD");
        Check.put(y, "ab");
        Check.same("the saved state of the first object", x.restore(), 4);
        Check.same("the saved state of the second object", y.restore(), 0);
        Check.same("the bytes of the first object", x.setRegister(0), 0);
        Check.same("the bytes of the second object", y.setRegister(0), 2);
        Check.same("the graph of the first object", x.vertexCount(0), 2);
        Check.same("the graph of the second object", y.vertexCount(0), 1);
    }
}
