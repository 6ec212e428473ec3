import java.util.LinkedHashMap;
import java.util.Map;
import java.util.function.Consumer;

/**
 * What a call leaves as it is, of all promises. Each call is made on an object of its own, which is then compared with
 * one that has not got the call: a question changes nothing, formatting changes the formatted text alone, append and
 * truncate the input buffer alone, an edit the registers and the subgroups, which undo brings back, and so on.
 */
public final class UnchangedTest {
    public static void main(String[] args) {
        whatIsThereBefore();
        questions();
        inputBuffer();
        formattedText();
        edits();
        partsOfTheState();
        undo();
        save();
        load();
        Check.end();
    }

    /**
     * Rank 3; register 4 is empty; both subgroups have words; three edits can be undone; there are a saved state, which
     * is not the present one, a parse error, a formatted text and five bytes in the buffer.
     */
    private static FreeGroupCalculator busy() {
        FreeGroupCalculator x = Check.loaded("rank 3;set 0 aab;set 1 bc;set 2 C;set 3 baB;set 5 bcbc;set 6 cb;"
                + "join 1 0;join 0 1;join 0 2;join 0 4;");
        x.setInverse(7, 0);
        x.save();
        x.addGeneratingWord(0, 3);
        x.addGeneratingWord(1, 3);
        Check.put(x, "rank 1;set 0 b;");
        try {
            x.load();
        } catch (IllegalArgumentException e) {
            Check.same("the kind of the parse error", x.errorKind(), FreeGroupCalculator.UNKNOWN_GENERATOR);
        }
        x.formatWord(3);
        Check.put(x, "ccAba");
        return x;
    }

    private static FreeGroupCalculator after(Consumer<FreeGroupCalculator> call) {
        FreeGroupCalculator x = busy();
        call.accept(x);
        return x;
    }

    private static Snapshot all(Consumer<FreeGroupCalculator> call) {
        return Snapshot.of(after(call));
    }

    private static Snapshot before() {
        return Snapshot.of(busy());
    }

    // A snapshot asks questions itself; here it is compared with what is due by the document.
    private static void whatIsThereBefore() {
        String registers = " registers a2b. bc. c-1. bab-1. 1. bcbc. cb. b-1a-2.";
        String first = " words 4 vertices 1 edges 3 0 0 0";
        String second = " words 2 vertices 4 edges 5 1 2 -1 3 -1 -1 2 -1 -1 -1 0 -1";
        Snapshot found = before();
        Check.same("error", found.error(), FreeGroupCalculator.UNKNOWN_GENERATOR + " at 13");
        Check.same("formatted text", found.formatted(), "bab-1.");
        Check.same("state", found.state(), new Snapshot.State(3, registers, first, second, 2));
        Check.same("edits", found.history(), " undo 2 3 2 1 3 0 4 2 3 words 4 1 edges 3 3"
                + " undo 1 3 2 1 3 0 4 2 3 words 3 1 edges 2 3 undo 0 3 2 1 3 0 4 2 0 words 3 1 edges 2 3 undo .");
        Check.same("saved state", found.saved(), "18" + registers + " words 3 vertices 1 edges 2 -1 0 0"
                + " words 1 vertices 3 edges 3 1 -1 -1 2 -1 -1 -1 0 -1");
        Check.same("input", found.input(), "5 bytes c2a-1ba.");
    }

    private static Map<String, Consumer<FreeGroupCalculator>> listOfQuestions() {
        Map<String, Consumer<FreeGroupCalculator>> list = new LinkedHashMap<>();
        list.put("errorKind", x -> x.errorKind());
        list.put("errorPosition", x -> x.errorPosition());
        list.put("groupRank", x -> x.groupRank());
        list.put("wordLength", x -> x.wordLength(0));
        list.put("letter", x -> x.letter(0, 2));
        list.put("areEqual", x -> x.areEqual(0, 0));
        list.put("areEqual of others", x -> x.areEqual(0, 1));
        list.put("areInverse", x -> x.areInverse(0, 7));
        list.put("areInverse of others", x -> x.areInverse(0, 0));
        list.put("compare", x -> x.compare(0, 1));
        list.put("compare of equal words", x -> x.compare(2, 2));
        list.put("exponentSum", x -> x.exponentSum(0, 2));
        list.put("commonPrefix", x -> x.commonPrefix(1, 3));
        list.put("cancellation", x -> x.cancellation(0, 7));
        list.put("doCommute", x -> x.doCommute(1, 5));
        list.put("doCommute of others", x -> x.doCommute(1, 0));
        list.put("coreLength", x -> x.coreLength(3));
        list.put("coreLetter", x -> x.coreLetter(3, 0));
        list.put("areConjugate", x -> x.areConjugate(1, 6));
        list.put("areConjugate of others", x -> x.areConjugate(1, 5));
        list.put("rotation", x -> x.rotation(1, 6));
        list.put("rootExponent", x -> x.rootExponent(5));
        list.put("magnusDegree", x -> x.magnusDegree(0));
        list.put("magnusDegree of the empty word", x -> x.magnusDegree(4));
        list.put("magnusCoefficient", x -> x.magnusCoefficient(5, 1, 2));
        list.put("magnusNorm", x -> x.magnusNorm(7, 4));
        return list;
    }

    private static Map<String, Consumer<FreeGroupCalculator>> listOfQuestionsOfSubgroups() {
        Map<String, Consumer<FreeGroupCalculator>> list = new LinkedHashMap<>();
        list.put("generatingWordCount", x -> x.generatingWordCount(1));
        list.put("vertexCount", x -> x.vertexCount(0));
        list.put("edgeCount", x -> x.edgeCount(1));
        list.put("neighbour", x -> x.neighbour(0, 0, 4));
        list.put("neighbour that is missing", x -> x.neighbour(1, 0, 4));
        list.put("subgroupRank", x -> x.subgroupRank(0));
        list.put("index", x -> x.index(0));
        list.put("contains", x -> x.contains(0, 5));
        list.put("contains another word", x -> x.contains(1, 5));
        list.put("reachedVertex", x -> x.reachedVertex(1, 0));
        list.put("reachedVertex that is missing", x -> x.reachedVertex(1, 2));
        list.put("smallestPower", x -> x.smallestPower(0, 5));
        list.put("smallestPower that is missing", x -> x.smallestPower(1, 2));
        list.put("isNormal", x -> x.isNormal(0));
        list.put("containsSubgroup", x -> x.containsSubgroup(0, 1));
        list.put("intersectionRank", x -> x.intersectionRank());
        list.put("intersectionIndex", x -> x.intersectionIndex());
        list.put("representativeLength", x -> x.representativeLength(1, 2));
        list.put("formattedCharacter", x -> x.formattedCharacter(1));
        return list;
    }

    private static void questions() {
        Map<String, Consumer<FreeGroupCalculator>> list = listOfQuestions();
        list.putAll(listOfQuestionsOfSubgroups());
        Snapshot due = before();
        list.forEach((name, call) -> {
            Check.same("all after " + name, all(call), due);
            Check.same("all after two times " + name, all(call.andThen(call)), due);
        });
        // The same with subgroups of finite index, where the questions have other answers.
        String text = "rank 1;set 0 aa;set 1 aaa;set 2 A;join 0 0;join 1 1;";
        Snapshot finite = Snapshot.of(Check.loaded(text));
        FreeGroupCalculator x = Check.loaded(text);
        Check.same("index", x.index(0), 2);
        Check.same("isNormal", x.isNormal(0), true);
        Check.same("smallestPower", x.smallestPower(1, 2), 3);
        Check.same("containsSubgroup", x.containsSubgroup(0, 1), false);
        Check.same("intersectionRank", x.intersectionRank(), 1);
        Check.same("intersectionIndex", x.intersectionIndex(), 6);
        Check.same("all after these", Snapshot.of(x), finite);
    }

    private static void inputBuffer() {
        Snapshot due = before();
        Snapshot longer = all(x -> x.append(0x62626262, 0x62626262, 0x62626262, 0x62626262, 0x62626262));
        Check.same("all but the input after append", longer.withInput(due), due);
        Check.same("the input after append", longer.input().startsWith("25 bytes c2a-1bab20"), true);
        for (int length = 0; length <= 5; length++) {
            int shorter = length;
            Snapshot cut = all(x -> x.truncate(shorter));
            Check.same("all but the input after truncate", cut.withInput(due), due);
            Check.same("the input after truncate", cut.input().startsWith(length + " bytes"), true);
        }
    }

    private static void formattedText() {
        Snapshot due = before();
        Snapshot word = all(x -> x.formatWord(0));
        Check.same("all but the formatted text after formatWord", word.withFormatted(due), due);
        Check.same("formatWord", word.formatted(), "a2b.");
        Snapshot basisWord = all(x -> x.formatBasisWord(0, 1));
        Check.same("all but the formatted text after formatBasisWord", basisWord.withFormatted(due), due);
        Check.same("formatBasisWord", basisWord.formatted(), "b.");
        Snapshot representative = all(x -> x.formatRepresentative(1, 3));
        Check.same("all but the formatted text after formatRepresentative", representative.withFormatted(due), due);
        Check.same("formatRepresentative", representative.formatted(), "B.");
        Snapshot base = all(x -> x.formatRepresentative(1, 0));
        Check.same("all but the formatted text after formatRepresentative", base.withFormatted(due), due);
        Check.same("formatRepresentative of the base vertex", base.formatted(), ".");
    }

    private static Map<String, Consumer<FreeGroupCalculator>> listOfRegisterEdits() {
        Map<String, Consumer<FreeGroupCalculator>> list = new LinkedHashMap<>();
        list.put("setRegister", x -> x.setRegister(2));
        list.put("setProduct", x -> x.setProduct(2, 0, 1));
        list.put("setProduct of a register with itself", x -> x.setProduct(2, 2, 2));
        list.put("setInverse", x -> x.setInverse(2, 1));
        list.put("setInverse of the register itself", x -> x.setInverse(2, 2));
        list.put("setConjugate", x -> x.setConjugate(2, 0, 1));
        list.put("setCommutator", x -> x.setCommutator(2, 0, 1));
        list.put("setPower", x -> x.setPower(2, 1, 3));
        list.put("setPower of the exponent 0", x -> x.setPower(2, 1, 0));
        list.put("setPower that changes nothing", x -> x.setPower(2, 2, 1));
        list.put("setRoot", x -> x.setRoot(2, 5));
        list.put("substitute", x -> x.substitute(2, 0, 0, 1));
        return list;
    }

    private static Map<String, Consumer<FreeGroupCalculator>> listOfOtherEdits() {
        Map<String, Consumer<FreeGroupCalculator>> list = new LinkedHashMap<>();
        list.put("addGeneratingWord", x -> x.addGeneratingWord(0, 0));
        list.put("addGeneratingWord of the empty word", x -> x.addGeneratingWord(1, 4));
        list.put("removeGeneratingWord", x -> x.removeGeneratingWord(0, 0));
        list.put("removeGeneratingWord of the last word", x -> x.removeGeneratingWord(1, x.generatingWordCount(1) - 1));
        list.put("restore", x -> x.restore());
        return list;
    }

    private static void edits() {
        Snapshot due = before();
        Map<String, Consumer<FreeGroupCalculator>> list = listOfRegisterEdits();
        list.putAll(listOfOtherEdits());
        list.forEach((name, edit) -> {
            boolean takesInput = name.equals("setRegister");
            String input = takesInput ? "0 bytes 1." : due.input();
            Snapshot found = all(edit);
            Check.same("the parse error after " + name, found.error(), due.error());
            Check.same("the formatted text after " + name, found.formatted(), due.formatted());
            Check.same("the saved state after " + name, found.saved(), due.saved());
            Check.same("the input after " + name, found.input(), input);
            Check.same("the edits after " + name, found.history().startsWith(" undo 3"), true);
            Snapshot undone = all(edit.andThen(x -> x.undo()));
            Check.same("undo does not change the input after " + name, undone.input(), input);
            Check.same("all after undoing " + name, undone.withInput(due), due);
            Check.same("all after undoing two times " + name, all(edit.andThen(edit).andThen(x -> x.undo())
                    .andThen(x -> x.undo())).withInput(due), due);
        });
    }

    // What an edit of a register or of a subgroup leaves of the registers and the subgroups.
    private static void partsOfTheState() {
        Snapshot.State due = before().state();
        listOfRegisterEdits().forEach((name, edit) -> {
            Snapshot.State found = all(edit).state();
            for (int register = 0; register < 8; register++) {
                if (register != 2) {
                    Check.same("register " + register + " after " + name, found.register(register),
                            due.register(register));
                }
            }
            Check.same("rank after " + name, found.rank(), due.rank());
            Check.same("subgroup 0 after " + name, found.first(), due.first());
            Check.same("subgroup 1 after " + name, found.second(), due.second());
            Check.same("intersection after " + name, found.commonRank(), due.commonRank());
        });
        listOfOtherEdits().forEach((name, edit) -> {
            Snapshot.State found = all(edit).state();
            Check.same("rank after " + name, found.rank(), due.rank());
            Check.same("registers after " + name, found.registers(), due.registers());
        });
        Check.same("subgroup 1 after an edit of subgroup 0", all(x -> x.addGeneratingWord(0, 5)).state().second(),
                due.second());
        Check.same("subgroup 0 after an edit of subgroup 1", all(x -> x.addGeneratingWord(1, 5)).state().first(),
                due.first());
        Check.same("subgroup 1 after an edit of subgroup 0", all(x -> x.removeGeneratingWord(0, 1)).state().second(),
                due.second());
        Check.same("subgroup 0 after an edit of subgroup 1", all(x -> x.removeGeneratingWord(1, 1)).state().first(),
                due.first());
    }

    private static void undo() {
        Snapshot due = before();
        for (int times = 1; times <= 3; times++) {
            FreeGroupCalculator x = busy();
            for (int i = 1; i <= times; i++) {
                Check.same("undo", x.undo(), 3 - i);
            }
            Snapshot found = Snapshot.of(x);
            Check.same("the parse error after undo", found.error(), due.error());
            Check.same("the formatted text after undo", found.formatted(), due.formatted());
            Check.same("the saved state after undo", found.saved(), due.saved());
            Check.same("the input after undo", found.input(), due.input());
            Check.same("what is undone after undo", due.history().endsWith(found.history()), true);
        }
    }

    private static void save() {
        Snapshot due = before();
        Snapshot found = all(x -> x.save());
        Check.same("all but the saved state after save", found.withSaved(due), due);
        Check.same("the saved state is another one", found.saved().equals(due.saved()), false);
        Check.same("saved and restored", all(((Consumer<FreeGroupCalculator>) x -> x.save()).andThen(x -> x.restore())
                .andThen(x -> x.undo())), found);
    }

    private static void load() {
        Snapshot due = before();
        Snapshot found = all(x -> {
            x.truncate(0);
            Check.put(x, "rank 1;");
            x.load();
        });
        Check.same("the formatted text after load", found.formatted(), due.formatted());
        Check.same("the parse error after load", found.error(), "0 at -1");
        Check.same("the saved state after load", found.saved(), "nothing");
        Check.same("the edits after load", found.history(), " undo .");
        Check.same("the input after load", found.input(), "0 bytes 1.");
        Check.same("the state after load", found.state(), Snapshot.of(Check.loaded("rank 1;")).state());
        Snapshot refused = all(x -> {
            x.truncate(0);
            Check.put(x, "rank 4;set 0 a;set 0 e;");
            Check.fails("load", IllegalArgumentException.class, x::load);
        });
        Check.same("all but the input and the parse error after a load that is refused", refused.withInput(due)
                .withError(due), due);
        Check.same("the input after it", refused.input(), "0 bytes 1.");
        Check.same("the parse error after it", refused.error(), FreeGroupCalculator.UNKNOWN_GENERATOR + " at 21");
    }
}
