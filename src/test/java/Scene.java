/** One step told whole: the state before, the instruction, and what has changed behind it. */
final class Scene {
    private static final String USUAL = "PC=0100 S=0800 U=0900";

    private Scene() {
    }

    /** The instruction is done, PC goes on behind it unless the words say otherwise. */
    static void done(String code, String before, String after) {
        State start = start(code, before);
        int behind = start.registers[State.PC] + code.replace(" ", "").length() / 2 & 0xFFFF;
        State end = start.with("PC=" + Integer.toHexString(behind)).with(after);
        compare(code + " with " + before, start, 0, end);
    }

    /** The step answers so, and all that changes is what the words say. */
    static void answers(int answer, String code, String before, String after) {
        State start = start(code, before);
        compare(code + " with " + before, start, answer, start.with(after));
    }

    static void undefined(String code, String before) {
        answers(2, code, before, "");
    }

    /**
     * Steps told in rows: the code, the words before, the words after, and what the step answers
     * (then PC stays unless the words say otherwise); or "undefined" for the words after.
     */
    static void table(String usual, String rows) {
        for (String row : rows.strip().split("\n")) {
            String[] cells = row.split("\\|", -1);
            String code = cells[0].strip();
            String before = usual + " " + cells[1].strip();
            String after = cells[2].strip();
            if (after.equals("undefined")) {
                undefined(code, before);
            } else if (cells.length > 3) {
                answers(Integer.parseInt(cells[3].strip()), code, before, after);
            } else {
                done(code, before, after);
            }
        }
    }

    static void table(String rows) {
        table("", rows);
    }

    private static State start(String code, String before) {
        State start = new State().with(USUAL).with(before);
        return start.withBytes(start.registers[State.PC], code);
    }

    private static void compare(String what, State start, int answer, State end) {
        Check.due(what + ", step()", start.build().step(), answer);
        end.compareAll(what, start, 1);
    }
}
