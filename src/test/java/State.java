import java.util.Arrays;
import java.util.List;
import java.util.function.Supplier;

/**
 * All that can be seen of a chip, told in words: "A=12", "D=1234" (A and B), "CC=05",
 * "[300]=12AB" (bytes from an address on), "armed", "unarmed", "due", "undue", "NMI=1", "FIRQ=1",
 * "IRQ=1", "waits=2". Numbers are in base 16.
 */
final class State {
    static final int PC = 6;
    static final List<String> NAMES =
        Arrays.asList("A", "B", "X", "Y", "U", "S", "PC", "DP", "CC");
    static final List<String> LINES = Arrays.asList("NMI", "FIRQ", "IRQ");
    private static final int SIZE = 4096;
    private static final int BLOCK = 256;

    final int[] registers = new int[9];
    final int[] memory = new int[SIZE];
    final int[] levels = new int[3];
    boolean armed;
    boolean due;
    int waits;

    State copy() {
        State other = new State();
        System.arraycopy(registers, 0, other.registers, 0, registers.length);
        System.arraycopy(memory, 0, other.memory, 0, SIZE);
        System.arraycopy(levels, 0, other.levels, 0, levels.length);
        other.armed = armed;
        other.due = due;
        other.waits = waits;
        return other;
    }

    State with(String words) {
        State other = copy();
        for (String word : words.trim().split("\\s+")) {
            if (!word.isEmpty()) {
                other.take(word);
            }
        }
        return other;
    }

    State withBytes(int address, String hex) {
        State other = copy();
        other.putBytes(address, hex);
        return other;
    }

    private void take(String word) {
        int equals = word.indexOf('=');
        String name = equals < 0 ? word : word.substring(0, equals);
        String value = equals < 0 ? "" : word.substring(equals + 1);
        if (name.startsWith("[")) {
            putBytes(Integer.parseInt(name.substring(1, name.length() - 1), 16), value);
        } else if (NAMES.contains(name)) {
            registers[NAMES.indexOf(name)] = Integer.parseInt(value, 16);
        } else if (name.equals("D")) {
            registers[0] = Integer.parseInt(value, 16) >> 8;
            registers[1] = Integer.parseInt(value, 16) & 0xFF;
        } else if (LINES.contains(name)) {
            levels[LINES.indexOf(name)] = Integer.parseInt(value, 16);
        } else {
            takeCondition(name, value);
        }
    }

    private void takeCondition(String name, String value) {
        switch (name) {
            case "armed":
                armed = true;
                break;
            case "unarmed":
                armed = false;
                break;
            case "due":
                due = true;
                break;
            case "undue":
                due = false;
                break;
            case "waits":
                waits = Integer.parseInt(value, 16);
                break;
            default:
                throw new IllegalArgumentException(name);
        }
    }

    private void putBytes(int address, String hex) {
        String digits = hex.replace(" ", "");
        for (int i = 0; i + 1 < digits.length(); i += 2) {
            memory[(address + i / 2) % SIZE] = Integer.parseInt(digits.substring(i, i + 2), 16);
        }
    }

    /** A new chip in this state, brought there by calls of the face. */
    TwinStackChip build() {
        TwinStackChip chip = new TwinStackChip();
        // Before it is armed: NMI going up makes nothing due then.
        chip.setLine(0, levels[0]);
        if (armed || due) {
            perform(chip, 0x1F44, 2);
        }
        if (waits == 1) {
            perform(chip, 0x13, 1);
        }
        if (waits == 2) {
            perform(chip, 0x3CFF, 2);
            clear(chip);
        }
        for (int i = 0; i < SIZE; i++) {
            if (memory[i] != 0 || i < 2) {
                chip.poke(i, memory[i]);
            }
        }
        if (due) {
            chip.setLine(0, 0);
            chip.setLine(0, 1);
            chip.setLine(0, levels[0]);
        }
        chip.setLine(1, levels[1]);
        chip.setLine(2, levels[2]);
        for (int i = 0; i < 9; i++) {
            chip.put(i, registers[i]);
        }
        return chip;
    }

    /** SYNC, CWAI and the like can be brought about by instructions alone. */
    private static void perform(TwinStackChip chip, int code, int length) {
        chip.load(0, code, length);
        chip.put(PC, 0);
        chip.put(5, 0x800);
        Check.due("a step that prepares a state", chip.step(), 0);
    }

    private static void clear(TwinStackChip chip) {
        for (int i = 0x7F4; i < 0x800; i++) {
            chip.poke(i, 0);
        }
    }

    int lineBits() {
        return (armed ? 1 : 0) | (due ? 2 : 0) | levels[0] << 2 | levels[1] << 3 | levels[2] << 4;
    }

    /** Compares all but memory. */
    void compareRegisters(String what, TwinStackChip chip) {
        for (int i = 0; i < 9; i++) {
            Check.due(what + ", " + NAMES.get(i), chip.reg(i), registers[i]);
        }
        Check.due(what + ", waits()", chip.waits(), waits);
        Check.due(what + ", lines()", chip.lines(), lineBits());
    }

    void compareAll(String what, State before, int steps) {
        compareAll(what, () -> before.play(steps));
    }

    /** Compares memory too, with a new chip for each block: an object is good for 512 calls. */
    void compareAll(String what, Supplier<TwinStackChip> maker) {
        compareRegisters(what, maker.get());
        for (int block = 0; block < SIZE; block += BLOCK) {
            TwinStackChip chip = maker.get();
            for (int i = block; i < block + BLOCK; i++) {
                if (chip.peek(i) != memory[i]) {
                    Check.due(what + ", byte " + Integer.toHexString(i), chip.peek(i), memory[i]);
                }
            }
        }
    }

    private TwinStackChip play(int steps) {
        TwinStackChip chip = build();
        for (int i = 0; i < steps; i++) {
            chip.step();
        }
        return chip;
    }
}
