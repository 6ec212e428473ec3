/** Promises 50 and 51: save and restore. */
public final class SavedStateTest {
    public static void main(String[] args) {
        FreeGroupCalculator x = Check.loaded("rank 2; set 0 ab; set 1 aab; set 7 b; join 1 1;");
        Check.fails("nothing saved", IllegalStateException.class, x::restore);
        Check.same("letters in all registers", x.save(), 6);
        Check.fails("saving is not an edit", IllegalStateException.class, x::undo);
        x.setInverse(0, 1);
        x.addGeneratingWord(0, 0);
        x.removeGeneratingWord(1, 0);
        Check.same("restore", x.restore(), 6);
        saved(x);
        Check.same("restoring is an edit", x.undo(), 3);
        Check.same("undone register", Check.word(x, 0), "BAA");
        Check.same("undone subgroup 0", x.generatingWordCount(0), 1);
        Check.same("undone subgroup 1", x.generatingWordCount(1), 0);
        Check.same("undone graph", x.vertexCount(0), 3);
        Check.same("the saved state is kept", x.restore(), 6);
        saved(x);
        x.setPower(0, 7, 5);
        Check.same("replaces the saved state", x.save(), 9);
        x.setPower(0, 7, 0);
        Check.same("restore the later one", x.restore(), 9);
        Check.same("register", Check.word(x, 0), "bbbbb");
        Check.same("again", x.restore(), 9);
        Check.same("undo does not change the saved state", x.undo() > 0, true);
        x.undo();
        x.undo();
        Check.same("before", Check.word(x, 0), "bbbbb");
        x.undo();
        Check.same("before", Check.word(x, 0), "ab");
        Check.same("restore", x.restore(), 9);
        Check.same("empty state", new FreeGroupCalculator().save(), 0);
        fullRegisters();
        Check.end();
    }

    private static void saved(FreeGroupCalculator x) {
        Check.same("register 0", Check.word(x, 0), "ab");
        Check.same("register 1", Check.word(x, 1), "aab");
        Check.same("register 7", Check.word(x, 7), "b");
        Check.same("subgroup 0", x.generatingWordCount(0), 0);
        Check.same("subgroup 1", x.generatingWordCount(1), 1);
        Check.same("graph 0", x.vertexCount(0), 1);
        Check.same("graph 1", x.vertexCount(1), 3);
    }

    private static void fullRegisters() {
        FreeGroupCalculator x = Check.loaded("rank 1; set 0 " + "a".repeat(60) + ";");
        for (int i = 1; i < 8; i++) {
            x.setInverse(i, 0);
        }
        Check.same("all letters", x.save(), 480);
        Check.same("all letters", x.restore(), 480);
    }
}
