/** Promises 1 to 5 and 7 to 12: the calls of the face, their edges and their refusals. */
final class CallsTest {
    private static final int[] STRANGE = {
        -1, -2, 4096, 4097, 65535, 65536, Integer.MAX_VALUE, Integer.MAX_VALUE - 3,
        Integer.MIN_VALUE, Integer.MIN_VALUE + 1,
    };

    public static void main(String[] args) {
        newObject();
        reset();
        pokeAndPeek();
        load();
        loadRefuses();
        run();
        setLine();
        regAndPut();
        waits();
        lines();
        objectsAreApart();
        Check.finish();
    }

    private static void newObject() {
        new State().compareAll("a new object", new State(), 0);
        TwinStackChip chip = new TwinStackChip();
        chip.setLine(0, 1);
        Check.due("NMI going up is not due in a new object", chip.lines(), 4);
    }

    private static void reset() {
        State before = new State().with("A=11 B=22 X=3333 Y=4444 U=5555 S=6666 PC=7777 DP=88 CC=A5"
            + " [FFE]=1234 [300]=99 armed due NMI=1 FIRQ=1 IRQ=1");
        TwinStackChip chip = before.build();
        chip.reset();
        State after = before.with("DP=00 CC=F5 PC=1234 unarmed undue");
        after.compareRegisters("reset", chip);
        Check.due("reset keeps memory", chip.peek(0x300), 0x99);
        Check.due("reset keeps memory", chip.peek(0xFFE), 0x12);
        for (int wait = 1; wait <= 2; wait++) {
            chip = new State().with("PC=0100 waits=" + wait + " [FFE]=0200").build();
            Check.due("it waits", chip.waits(), wait);
            chip.reset();
            Check.due("reset ends a wait", chip.waits(), 0);
            Check.due("and goes to the vector", chip.reg(6), 0x200);
        }
        chip = before.build();
        chip.reset();
        chip.setLine(0, 0);
        chip.setLine(0, 1);
        Check.due("not due, for not armed any more", chip.lines(), 0x1C);
    }

    private static void pokeAndPeek() {
        TwinStackChip chip = new TwinStackChip();
        Check.due("poke(0, 255)", chip.poke(0, 255), true);
        Check.due("poke(4095, 1)", chip.poke(4095, 1), true);
        Check.due("poke(2000, 128)", chip.poke(2000, 128), true);
        Check.due("peek(0)", chip.peek(0), 255);
        Check.due("peek(4095)", chip.peek(4095), 1);
        Check.due("peek(2000)", chip.peek(2000), 128);
        Check.due("peek(1999)", chip.peek(1999), 0);
        Check.due("peek(2001)", chip.peek(2001), 0);
        Check.due("poke(2000, 0)", chip.poke(2000, 0), true);
        Check.due("peek(2000)", chip.peek(2000), 0);
        for (int strange : STRANGE) {
            Check.due("poke(" + strange + ", 7)", chip.poke(strange, 7), false);
            Check.due("poke(0, " + strange + ")", chip.poke(0, strange), false);
            Check.due("peek(" + strange + ")", chip.peek(strange), -1);
        }
        Check.due("poke(0, 256)", chip.poke(0, 256), false);
        Check.due("peek(0), nothing changed", chip.peek(0), 255);
        Check.due("peek(4095), nothing changed", chip.peek(4095), 1);
    }

    private static void load() {
        int[][] due = {
            {0xEF, 0, 0, 0}, {0xCD, 0xEF, 0, 0}, {0xAB, 0xCD, 0xEF, 0}, {0x89, 0xAB, 0xCD, 0xEF},
        };
        for (int n = 1; n <= 4; n++) {
            TwinStackChip chip = new TwinStackChip();
            Check.due("load " + n, chip.load(0x200, 0x89ABCDEF, n), true);
            Check.due("before it", chip.peek(0x1FF), 0);
            for (int i = 0; i < 4; i++) {
                Check.due("load " + n + ", byte " + i, chip.peek(0x200 + i), due[n - 1][i]);
            }
            Check.due("load at the end", chip.load(4096 - n, 0x01020304, n), true);
            Check.due("the last byte", chip.peek(4095), 4);
            Check.due("no wrapping", chip.peek(0), 0);
            Check.due("load at 0", chip.load(0, -1, n), true);
            Check.due("its first byte", chip.peek(0), 255);
            Check.due("its last byte", chip.peek(n - 1), 255);
            Check.due("behind it", chip.peek(n), 0);
        }
    }

    private static void loadRefuses() {
        TwinStackChip chip = new TwinStackChip();
        for (int n = 1; n <= 4; n++) {
            Check.due("one too far", chip.load(4097 - n, -1, n), false);
            Check.due("one too low", chip.load(-1, -1, n), false);
            for (int strange : STRANGE) {
                Check.due("load(" + strange + ", -1, " + n, chip.load(strange, -1, n), false);
            }
        }
        for (int n : new int[] {0, 5, -1, Integer.MAX_VALUE, Integer.MIN_VALUE}) {
            Check.due("load(0, -1, " + n + ")", chip.load(0, -1, n), false);
            Check.due("load(4090, -1, " + n + ")", chip.load(4090, -1, n), false);
        }
        for (int i = 0; i < 6; i++) {
            Check.due("nothing changed", chip.peek(i), 0);
            Check.due("nothing changed", chip.peek(4095 - i), 0);
        }
    }

    private static void run() {
        // INCA for ever: the code fills what is run through.
        State counting = new State().with("PC=0100");
        for (int i = 0; i < 60; i++) {
            counting = counting.withBytes(0x100 + i, "4C");
        }
        for (int n = 1; n <= 50; n++) {
            TwinStackChip chip = counting.build();
            Check.due("run(" + n + ")", chip.run(n), n);
            Check.due("A after run(" + n + ")", chip.reg(0), n);
            Check.due("PC after run(" + n + ")", chip.reg(6), 0x100 + n);
        }
        TwinStackChip chip = counting.build();
        for (int n : new int[] {0, 51, -1, 100, Integer.MAX_VALUE, Integer.MIN_VALUE}) {
            Check.due("run(" + n + ")", chip.run(n), -1);
        }
        counting.compareRegisters("a run that is refused", chip);
        runEnds();
    }

    private static void runEnds() {
        TwinStackChip chip = new State().with("PC=0100 [100]=4C4C0112").build();
        Check.due("the undefined step is counted", chip.run(10), 3);
        Check.due("PC stays at it", chip.reg(6), 0x102);
        Check.due("again", chip.run(10), 1);
        Check.due("exactly to it", chip.run(1), 1);
        Check.due("A", chip.reg(0), 2);
        chip = new State().with("PC=0100 [100]=4C134C4C01").build();
        Check.due("INC, SYNC, and a step that waits", chip.run(10), 3);
        Check.due("it waits", chip.waits(), 1);
        Check.due("PC behind SYNC", chip.reg(6), 0x102);
        Check.due("a waiting step", chip.run(50), 1);
        chip.setLine(2, 1);
        chip.put(8, 0x10);
        Check.due("it goes on", chip.run(50), 3);
        Check.due("A", chip.reg(0), 3);
        chip = new State().with("PC=0100 S=0800 [100]=3CFF").build();
        Check.due("CWAI and a step that waits", chip.run(50), 2);
        Check.due("it waits", chip.waits(), 2);
        chip = new State().with("PC=0100 S=0800 IRQ=1 [FF8]=0200 [200]=4C4C01").build();
        Check.due("the interrupt is a step", chip.run(50), 4);
        Check.due("A", chip.reg(0), 2);
    }

    private static void setLine() {
        TwinStackChip chip = new TwinStackChip();
        for (int which = 0; which < 3; which++) {
            Check.due("up", chip.setLine(which, 1), true);
            Check.due("the level", chip.lines(), 4 << which);
            Check.due("up again", chip.setLine(which, 1), true);
            Check.due("the level", chip.lines(), 4 << which);
            for (int strange : new int[] {2, 3, -1, 256, Integer.MAX_VALUE, Integer.MIN_VALUE}) {
                Check.due("a strange level", chip.setLine(which, strange), false);
            }
            Check.due("the level", chip.lines(), 4 << which);
            Check.due("down", chip.setLine(which, 0), true);
            Check.due("the level", chip.lines(), 0);
        }
        for (int which : new int[] {3, 4, -1, -3, Integer.MAX_VALUE, Integer.MIN_VALUE}) {
            Check.due("setLine(" + which + ", 0)", chip.setLine(which, 0), false);
            Check.due("setLine(" + which + ", 1)", chip.setLine(which, 1), false);
        }
        Check.due("nothing changed", chip.lines(), 0);
        nmiIsDue();
    }

    private static void nmiIsDue() {
        TwinStackChip chip = new State().with("NMI=1 armed").build();
        Check.due("armed at level 1, not due", chip.lines(), 5);
        chip.setLine(0, 1);
        Check.due("from 1 to 1 nothing is due", chip.lines(), 5);
        chip.setLine(0, 2);
        chip.setLine(0, 0);
        Check.due("down: not due", chip.lines(), 1);
        chip.setLine(1, 1);
        chip.setLine(2, 1);
        Check.due("the others make no NMI due", chip.lines(), 0x19);
        chip.setLine(0, 1);
        Check.due("up: due", chip.lines(), 0x1F);
        chip.setLine(0, 0);
        Check.due("down: still due", chip.lines(), 0x1B);
    }

    private static void regAndPut() {
        int[] values = {0, 1, 0x7F, 0x80, 0xFF, 0x100, 0x1234, 0x8000, 0xFFFF, 0x10000, 0x123456,
            -1, -2, -256, -65536, -65537, Integer.MAX_VALUE, Integer.MIN_VALUE};
        for (int i = 0; i < 9; i++) {
            int size = i >= 2 && i <= 6 ? 65536 : 256;
            TwinStackChip chip = new TwinStackChip();
            for (int v : values) {
                Check.due("put(" + i + ", " + v + ")", chip.put(i, v), true);
                Check.due("reg(" + i + ")", chip.reg(i), Math.floorMod(v, size));
            }
            chip.put(i, 0x77);
            for (int other = 0; other < 9; other++) {
                Check.due("the others stay", chip.reg(other), other == i ? 0x77 : 0);
            }
            Check.due("put arms nothing", chip.lines(), 0);
        }
        TwinStackChip chip = new TwinStackChip();
        for (int i : new int[] {9, 10, -1, 100, Integer.MAX_VALUE, Integer.MIN_VALUE}) {
            Check.due("put(" + i + ", 5)", chip.put(i, 5), false);
            Check.due("reg(" + i + ")", chip.reg(i), -1);
        }
        new State().compareRegisters("puts that are refused", chip);
    }

    private static void waits() {
        TwinStackChip chip = new State().with("PC=0100 S=0800 [100]=12133CFF").build();
        Check.due("at first", chip.waits(), 0);
        chip.step();
        Check.due("after 12", chip.waits(), 0);
        Check.due("SYNC is done", chip.step(), 0);
        Check.due("by SYNC", chip.waits(), 1);
        Check.due("a waiting step", chip.step(), 1);
        Check.due("by SYNC", chip.waits(), 1);
        chip.put(8, 0x10);
        chip.setLine(2, 1);
        Check.due("a line alone does not end it", chip.waits(), 1);
        Check.due("CWAI is done", chip.step(), 0);
        Check.due("by CWAI", chip.waits(), 2);
        Check.due("IRQ is off", chip.step(), 1);
        chip.put(8, 0);
        Check.due("IRQ is taken", chip.step(), 0);
        Check.due("it does not wait", chip.waits(), 0);
    }

    private static void lines() {
        for (int bits = 0; bits < 32; bits++) {
            State state = new State();
            state.armed = (bits & 1) != 0;
            state.due = (bits & 2) != 0;
            for (int line = 0; line < 3; line++) {
                state.levels[line] = bits >> 2 + line & 1;
            }
            if (state.armed || !state.due) {
                Check.due("lines() for " + bits, state.build().lines(), bits);
            }
        }
    }

    private static void objectsAreApart() {
        TwinStackChip first = new TwinStackChip();
        TwinStackChip second = new TwinStackChip();
        first.poke(0, 0x13);
        first.put(0, 9);
        first.setLine(1, 1);
        first.put(8, 0x40);
        first.step();
        new State().compareRegisters("another object", second);
        Check.due("another object's memory", second.peek(0), 0);
    }
}
