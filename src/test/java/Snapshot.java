/**
 * All that an object answers, read as texts that can be compared. Reading uses the object up: it formats, undoes,
 * restores and sets a register. Of a state with short words it takes some 300 calls.
 */
record Snapshot(String error, String formatted, State state, String history, String saved, String input) {
    record State(int rank, String registers, String first, String second, int commonRank) {
        String register(int number) {
            return registers.split(" ")[2 + number];
        }
    }

    static Snapshot of(FreeGroupCalculator x) {
        String error = x.errorKind() + " at " + x.errorPosition();
        String formatted = formattedText(x);
        State state = new State(x.groupRank(), registers(x), subgroup(x, 0), subgroup(x, 1), x.intersectionRank());
        return new Snapshot(error, formatted, state, history(x), saved(x), input(x));
    }

    Snapshot withError(Snapshot other) {
        return new Snapshot(other.error, formatted, state, history, saved, input);
    }

    Snapshot withFormatted(Snapshot other) {
        return new Snapshot(error, other.formatted, state, history, saved, input);
    }

    Snapshot withSaved(Snapshot other) {
        return new Snapshot(error, formatted, state, history, other.saved, input);
    }

    Snapshot withInput(Snapshot other) {
        return new Snapshot(error, formatted, state, history, saved, other.input);
    }

    private static String formattedText(FreeGroupCalculator x) {
        StringBuilder text = new StringBuilder();
        try {
            for (int i = 0; i < 200; i++) {
                text.append(x.formattedCharacter(i));
            }
        } catch (IndexOutOfBoundsException e) {
            text.append('.');
        }
        return text.toString();
    }

    private static String registers(FreeGroupCalculator x) {
        StringBuilder text = new StringBuilder(" registers");
        for (int register = 0; register < 8; register++) {
            x.formatWord(register);
            text.append(' ').append(formattedText(x));
        }
        return text.toString();
    }

    private static String subgroup(FreeGroupCalculator x, int subgroup) {
        int vertices = x.vertexCount(subgroup);
        StringBuilder text = new StringBuilder(" words " + x.generatingWordCount(subgroup) + " vertices " + vertices
                + " edges " + x.edgeCount(subgroup));
        for (int vertex = 0; vertex < vertices && vertex < 5; vertex++) {
            for (int code = 0; code < 2 * x.groupRank(); code += 2) {
                text.append(' ').append(x.neighbour(subgroup, vertex, code));
            }
        }
        return text.toString();
    }

    private static String lengthsAndCounts(FreeGroupCalculator x) {
        StringBuilder text = new StringBuilder();
        for (int register = 0; register < 8; register++) {
            text.append(' ').append(x.wordLength(register));
        }
        return text + " words " + x.generatingWordCount(0) + ' ' + x.generatingWordCount(1) + " edges "
                + x.edgeCount(0) + ' ' + x.edgeCount(1);
    }

    private static String history(FreeGroupCalculator x) {
        StringBuilder text = new StringBuilder();
        try {
            for (int i = 0; i < 10; i++) {
                text.append(" undo ").append(x.undo()).append(lengthsAndCounts(x));
            }
        } catch (IllegalStateException e) {
            text.append('.');
        }
        return text.toString();
    }

    private static String saved(FreeGroupCalculator x) {
        try {
            return x.restore() + registers(x) + subgroup(x, 0) + subgroup(x, 1);
        } catch (IllegalStateException e) {
            return "nothing";
        }
    }

    private static String input(FreeGroupCalculator x) {
        int length = inputLength(x);
        try {
            x.setRegister(0);
        } catch (IllegalArgumentException | IllegalStateException e) {
            return length + " bytes, " + e.getClass().getSimpleName();
        }
        x.formatWord(0);
        return length + " bytes " + formattedText(x);
    }

    private static int inputLength(FreeGroupCalculator x) {
        try {
            int longer = x.append(0, 0, 0, 0, 0);
            x.truncate(longer - 20);
            return longer - 20;
        } catch (IllegalStateException e) {
            return nearlyFullLength(x);
        }
    }

    // Above 580 bytes nothing can be appended; the greatest length to which it can be shortened is its own.
    private static int nearlyFullLength(FreeGroupCalculator x) {
        for (int length = 600; length > 580; length--) {
            try {
                x.truncate(length);
                return length;
            } catch (IllegalArgumentException e) {
                continue;
            }
        }
        return -1;
    }
}
