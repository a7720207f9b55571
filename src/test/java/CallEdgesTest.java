/** Promises 1 to 10 and 12: the edges that their sentences name, and what is refused. */
final class CallEdgesTest {
    private static final int MIN = Integer.MIN_VALUE;
    private static final int MAX = Integer.MAX_VALUE;
    private static final String FULL = "A=12 B=34 X=5678 Y=9ABC U=DEF0 S=0800 PC=0100 DP=77 CC=FF"
        + " [000]=A1A2A3A4A5 [100]=4C4C4C4C [7FC]=B1B2B3B4B5 [FFA]=C1C2C3C4C5C6 ";
    // Running and waiting, with lines up and NMI due: much could change that must not.
    private static final String[] STATES = {
        FULL + "NMI=1 armed FIRQ=1 IRQ=1",
        FULL + "armed due",
        FULL + "waits=1 IRQ=1",
        FULL + "waits=2 armed due FIRQ=1",
    };

    private interface Call {
        long answer(TwinStackChip chip);
    }

    public static void main(String[] args) {
        newObject();
        reset();
        poke();
        load();
        loadRefuses();
        peek();
        step();
        run();
        setLine();
        reg();
        put();
        lines();
        lastCall();
        Check.finish();
    }

    /** The call answers so, and all that can be seen is as before. */
    private static void changesNothing(String what, long answer, Call call) {
        for (String words : STATES) {
            State state = new State().with(words);
            Check.due(what, call.answer(state.build()), answer);
            state.compareAll(what, () -> {
                TwinStackChip chip = state.build();
                call.answer(chip);
                return chip;
            });
        }
    }

    private static void newObject() {
        Check.sentence("All bytes and registers are 0, no line is 1, nothing is due or armed.");
        new State().compareAll("a new object", TwinStackChip::new);
        TwinStackChip chip = new TwinStackChip();
        for (int line = 0; line < 3; line++) {
            chip.setLine(line, 0);
        }
        new State().compareRegisters("its lines down again", chip);
        chip.setLine(0, 1);
        Check.due("NMI up is not due", chip.lines(), 4);
        Check.due("its first step is 00 00: NEG of a byte 0", chip.step(), 0);
        new State().with("NMI=1 PC=0002 CC=04").compareRegisters("behind it", chip);
    }

    private static void reset() {
        Check.sentence("DP is 0, I and F are on, NMI is not armed nor due, it does not wait,"
            + " PC is the word at FFFE; the rest stays.");
        resets(FULL + "NMI=1 armed FIRQ=1 IRQ=1", "CC=FF PC=C5C6");
        resets(FULL + "CC=00 armed due NMI=1", "CC=50 PC=C5C6");
        resets(FULL + "CC=AF armed due waits=1", "CC=FF PC=C5C6");
        resets(FULL + "CC=10 armed waits=2 IRQ=1", "CC=50 PC=C5C6");
        resets(FULL + "CC=40 [FFE]=FFFF FIRQ=1", "CC=50 PC=FFFF");
        resets(FULL + "CC=8F [FFE]=0000", "CC=DF PC=0000");
        resets("", "CC=50");
        TwinStackChip chip = new State().with("armed NMI=0").build();
        chip.reset();
        chip.reset();
        new State().with("CC=50").compareRegisters("twice", chip);
    }

    private static void resets(String words, String after) {
        State before = new State().with(words);
        before.with("DP=00 unarmed undue waits=0").with(after).compareAll("reset", () -> {
            TwinStackChip chip = before.build();
            chip.reset();
            return chip;
        });
    }

    private static void poke() {
        Check.sentence("The byte at an address 0 .. 4095 becomes v");
        TwinStackChip chip = new TwinStackChip();
        for (int address : new int[] {0, 1, 255, 256, 4094, 4095}) {
            for (int v : new int[] {0, 1, 127, 128, 254, 255, 0}) {
                Check.due("poke " + address, chip.poke(address, v), true);
                Check.due("peek " + address, chip.peek(address), v);
            }
            chip.poke(address, 200);
        }
        Check.due("the one behind", chip.peek(2), 0);
        Check.due("the one before", chip.peek(4093), 0);
        Check.sentence("false if one of them is not so, or v is not 0 .. 255 (poke)");
        for (int strange : new int[] {-1, 4096, 4097, 8191, 65535, 65536, MIN, MAX, MIN + 1}) {
            pokeIsRefused(strange, 7);
            pokeIsRefused(strange, 256);
        }
        for (int strange : new int[] {-1, 256, 257, 511, 65536, -256, MIN, MAX}) {
            pokeIsRefused(0, strange);
            pokeIsRefused(4095, strange);
        }
    }

    private static void pokeIsRefused(int address, int v) {
        changesNothing("poke(" + address + ", " + v + ")", 0, chip -> bit(chip.poke(address, v)));
    }

    private static long bit(boolean answer) {
        return answer ? 1 : 0;
    }

    private static void load() {
        Check.sentence("The n lowest bytes of word, the highest of them first,"
            + " are put into memory from an address on");
        int[] words = {0x01020304, 0x89ABCDEF, -1, 0, MIN, MAX, 0xFF, 0xFF00};
        for (int word : words) {
            String all = String.format("%08X", word);
            for (int n = 1; n <= 4; n++) {
                for (int address : new int[] {0, 1, 0x7FD, 4096 - n}) {
                    State before = new State().with("[000]=5555555555 [7FC]=555555555555"
                        + " [FFA]=555555555555");
                    String bytes = all.substring(8 - 2 * n);
                    int size = n;
                    before.withBytes(address, bytes).compareAll("load " + bytes, () -> {
                        TwinStackChip chip = before.build();
                        Check.due("load " + bytes, chip.load(address, word, size), true);
                        return chip;
                    });
                }
            }
        }
    }

    private static void loadRefuses() {
        Check.sentence("false, refused, if n is not 1 .. 4");
        for (int n : new int[] {0, 5, 6, 8, -1, -4, MIN, MAX}) {
            loadIsRefused(0, n);
            loadIsRefused(100, n);
        }
        Check.sentence("or one of the addresses is not 0 .. 4095");
        for (int n = 1; n <= 4; n++) {
            for (int address : new int[] {4097 - n, 4096, 65536, -1, -n, MIN, MAX, MAX - n + 1}) {
                loadIsRefused(address, n);
            }
        }
        loadIsRefused(4094, 4);
        loadIsRefused(-2, 4);
    }

    private static void loadIsRefused(int address, int n) {
        changesNothing("load(" + address + ", -1, " + n + ")", 0,
            chip -> bit(chip.load(address, -1, n)));
    }

    private static void peek() {
        Check.sentence("The byte at an address; -1 if there is none.");
        changesNothing("peek(0)", 0xA1, chip -> chip.peek(0));
        changesNothing("peek(4095)", 0xC6, chip -> chip.peek(4095));
        changesNothing("peek(512)", 0, chip -> chip.peek(512));
        for (int strange : new int[] {-1, -4096, 4096, 4097, 8192, 65535, 65536, MIN, MAX}) {
            changesNothing("peek(" + strange + ")", -1, chip -> chip.peek(strange));
        }
    }

    private static void step() {
        Check.sentence("0 an instruction or interrupt was done, 1 it waits, 2 the instruction is"
            + " undefined.");
        Scene.table("""
            12    |              | PC=0101         | 0
            13    |              | PC=0101 waits=1 | 0
            3C 00 | S=0003 U=0000 | PC=0102 waits=2 CC=80 S=FFF7 [FF7]=80 [001]=0102 | 0
            12    | FIRQ=1       | S=07FD [7FD]=000100 CC=50 PC=0000 | 0
            12    | waits=1      |                 | 1
            12    | waits=2      |                 | 1
            01    | waits=2      |                 | 1
            01    |              |                 | 2
            01    | waits=1 IRQ=1 CC=10 | waits=0  | 2
            """);
    }

    private static void run() {
        Check.sentence("-1, refused, if n is not 1 .. 50.");
        for (int n : new int[] {0, -1, -50, 51, 52, 100, 256, 65536, MIN, MAX}) {
            changesNothing("run(" + n + ")", -1, chip -> chip.run(n));
        }
        Check.sentence("Up to n steps");
        for (int n : new int[] {1, 2, 49, 50}) {
            TwinStackChip chip = new State().with("PC=0100 [100]=4C20FD").build();
            Check.due("run(" + n + ")", chip.run(n), n);
            Check.due("A", chip.reg(0), (n + 1) / 2);
            Check.due("PC", chip.reg(6), n % 2 == 0 ? 0x100 : 0x101);
        }
        Check.sentence("ending behind one that answers other than 0: how many were done");
        for (int before = 0; before < 50; before++) {
            for (String end : new String[] {"01", "13"}) {
                State state = new State().with("PC=0100");
                for (int i = 0; i < before; i++) {
                    state = state.withBytes(0x100 + i, "4C");
                }
                state = state.withBytes(0x100 + before, end + "4C4C");
                int most = before + (end.equals("01") ? 1 : 2);
                for (int n : new int[] {1, before, before + 1, before + 2, 50}) {
                    if (n >= 1 && n <= 50) {
                        TwinStackChip chip = state.build();
                        Check.due("run(" + n + ") with " + before + " before " + end, chip.run(n),
                            Math.min(n, most));
                        Check.due("A", chip.reg(0), Math.min(n, before));
                    }
                }
            }
        }
    }

    private static void setLine() {
        Check.sentence("A line gets a level");
        for (int bits = 0; bits < 64; bits++) {
            int line = bits & 3;
            if (line < 3) {
                State state = new State().with("NMI=" + (bits >> 2 & 1) + " FIRQ=" + (bits >> 3 & 1)
                    + " IRQ=" + (bits >> 4 & 1));
                int level = bits >> 5;
                TwinStackChip chip = state.build();
                Check.due("setLine(" + line + ", " + level + ")", chip.setLine(line, level), true);
                state.with(State.LINES.get(line) + "=" + level).compareRegisters("a line", chip);
            }
        }
        Check.sentence("false if there is no such line, or level is not 0 or 1");
        for (int strange : new int[] {-1, 3, 4, 256, MIN, MAX}) {
            for (int level : new int[] {0, 1, 2}) {
                changesNothing("setLine(" + strange + ", " + level + ")", 0,
                    chip -> bit(chip.setLine(strange, level)));
            }
        }
        for (int strange : new int[] {-1, 2, 3, 255, 256, 257, MIN, MAX}) {
            for (int line = 0; line < 3; line++) {
                int which = line;
                changesNothing("setLine(" + line + ", " + strange + ")", 0,
                    chip -> bit(chip.setLine(which, strange)));
            }
        }
    }

    private static void reg() {
        Check.sentence("0 A, 1 B, 2 X, 3 Y, 4 U, 5 S, 6 PC, 7 DP, 8 CC; -1 for another one.");
        int[] due = {0x12, 0x34, 0x5678, 0x9ABC, 0xDEF0, 0x800, 0x100, 0x77, 0xFF};
        for (int i = 0; i < 9; i++) {
            int which = i;
            changesNothing("reg(" + i + ")", due[i], chip -> chip.reg(which));
        }
        for (int strange : new int[] {-1, 9, 10, 16, 255, 256, MIN, MAX}) {
            changesNothing("reg(" + strange + ")", -1, chip -> chip.reg(strange));
        }
    }

    private static void put() {
        Check.sentence("Register i (as for reg) becomes v mod 65536, or mod 256");
        int[] values = {0, 1, 255, 256, 257, 65535, 65536, 65537, -1, -255, -256, -257, -65535,
            -65536, -65537, MAX, MIN, MIN + 1};
        for (int i = 0; i < 9; i++) {
            for (int v : values) {
                State state = new State().with(STATES[i % 4]);
                TwinStackChip chip = state.build();
                Check.due("put(" + i + ", " + v + ")", chip.put(i, v), true);
                int size = State.NAMES.get(i).matches("X|Y|U|S|PC") ? 65536 : 256;
                state.registers[i] = Math.floorMod(v, size);
                state.compareRegisters("put(" + i + ", " + v + ")", chip);
            }
        }
        Check.sentence("(that arms nothing)");
        TwinStackChip chip = new TwinStackChip();
        for (int i = 0; i < 9; i++) {
            chip.put(i, 0x800);
            Check.due("lines() behind put(" + i + ", ..)", chip.lines(), 0);
        }
        chip.setLine(0, 1);
        Check.due("nor is NMI due then", chip.lines(), 4);
        Check.sentence("false for another one (put)");
        for (int strange : new int[] {-1, 9, 10, 16, 255, 256, MIN, MAX}) {
            changesNothing("put(" + strange + ", 5)", 0, one -> bit(one.put(strange, 5)));
        }
    }

    private static void lines() {
        Check.sentence("Bit 0: NMI is armed, bit 1: NMI is due,"
            + " bits 2 .. 4: the levels of the lines 0 .. 2.");
        for (int bits = 0; bits < 32; bits++) {
            if ((bits & 3) != 2) {
                State state = new State().with(((bits & 1) != 0 ? "armed " : "")
                    + ((bits & 2) != 0 ? "due " : "") + "NMI=" + (bits >> 2 & 1) + " FIRQ="
                    + (bits >> 3 & 1) + " IRQ=" + (bits >> 4));
                Check.due("lines()", state.build().lines(), bits);
            }
        }
    }

    private static void lastCall() {
        Check.sentence("An object is used for at most 512 calls after it has been made");
        TwinStackChip chip = new TwinStackChip();
        chip.load(0x100, 0x4C20FD, 3);
        chip.put(6, 0x100);
        for (int i = 0; i < 508; i++) {
            Check.due("run(50)", chip.run(50), 50);
        }
        Check.due("A", chip.reg(0), 508 * 25 % 256);
        Check.due("PC", chip.reg(6), 0x100);
    }
}
