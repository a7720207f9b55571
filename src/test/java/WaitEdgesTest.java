/** Terms and promise 11: SYNC, CWAI, and what a step does while it waits. */
final class WaitEdgesTest {
    private static final String ALL = "A=1A B=2B X=3C4D Y=5E6F U=8A9B S=0800 PC=0100 DP=71"
        + " [FF6]=A5A6A7A8 [FFC]=ABAC ";
    private static final String PUSHED = "1A2B713C4D5E6F8A9B";

    public static void main(String[] args) {
        syncBegins();
        syncEnds();
        syncStays();
        cwaiBegins();
        cwaiStays();
        undefinedBehindSync();
        waitsTells();
        othersEndNothing();
        Check.finish();
    }

    private static void syncBegins() {
        Check.sentence("13: SYNC.");
        Scene.table(ALL, """
            13 | CC=00 | waits=1
            13 | CC=FF | waits=1
            13 | CC=50 FIRQ=1 IRQ=1 NMI=1 | waits=1
            13 | PC=FFFF CC=00 | waits=1 PC=0000
            """);
    }

    private static void syncEnds() {
        Check.sentence("if NMI is due, or a level of FIRQ or IRQ is 1 (whatever F and I),"
            + " waiting ends, and an instruction is done");
        Scene.table(ALL + "waits=1", """
            4C    | CC=50 FIRQ=1       | A=1B waits=0
            4C    | CC=50 IRQ=1        | A=1B waits=0
            4C    | CC=50 FIRQ=1 IRQ=1 | A=1B waits=0
            4C    | CC=40 FIRQ=1       | A=1B waits=0
            4C    | CC=10 IRQ=1        | A=1B waits=0
            13    | CC=10 IRQ=1        | waits=1
            3C 10 | CC=50 FIRQ=1       | waits=2 CC=90 S=07F4 [7F4]=90LOW0102
            1C 00 | CC=50 FIRQ=1       | waits=0 CC=00
            4C    | PC=FFFF CC=10 IRQ=1 | A=1B waits=0 PC=0000
            4C    | CC=50 armed due | waits=0 undue CC=D0 PC=ABAC S=07F4 [7F4]=D0LOW0100 | 0
            4C    | CC=10 FIRQ=1    | waits=0 CC=50 PC=A5A6 S=07FD [7FD]=100100 | 0
            4C    | CC=40 IRQ=1     | waits=0 CC=D0 PC=A7A8 S=07F4 [7F4]=C0LOW0100 | 0
            """.replace("LOW", PUSHED));
    }

    private static void syncStays() {
        Check.sentence("else nothing (it waits by SYNC)");
        Scene.table(ALL + "waits=1", """
            4C    | CC=00             |  | 1
            4C    | CC=50             |  | 1
            4C    | CC=00 NMI=1       |  | 1
            4C    | CC=00 NMI=1 armed |  | 1
            01    | CC=00             |  | 1
            13    | CC=00             |  | 1
            """);
        TwinStackChip chip = new State().with(ALL + "waits=1 [100]=4C CC=00").build();
        chip.setLine(1, 1);
        chip.setLine(2, 1);
        chip.setLine(1, 0);
        chip.setLine(2, 0);
        Check.due("a level that was 1 but is not", chip.step(), 1);
        Check.due("it waits", chip.waits(), 1);
        for (int i = 0; i < 20; i++) {
            Check.due("again", chip.run(50), 1);
        }
        Check.due("PC", chip.reg(6), 0x100);
    }

    private static void cwaiBegins() {
        Check.sentence("3C n: CWAI: CC and n, then E on, all pushed on S, and it waits.");
        Scene.table(ALL, """
            3C 00 | CC=FF  | waits=2 CC=80 S=07F4 [7F4]=80LOW0102
            3C FF | CC=00  | waits=2 CC=80 S=07F4 [7F4]=80LOW0102
            3C FF | CC=FF  | waits=2 CC=FF S=07F4 [7F4]=FFLOW0102
            3C 7F | CC=FF  | waits=2 CC=FF S=07F4 [7F4]=FFLOW0102
            3C EF | CC=5A  | waits=2 CC=CA S=07F4 [7F4]=CALOW0102
            3C AF | CC=50 FIRQ=1 IRQ=1 | waits=2 CC=80 S=07F4 [7F4]=80LOW0102
            3C FF | CC=00 S=0006 | waits=2 CC=80 S=FFFA [FFA]=80LOW0102
            3C FF | CC=00 PC=FFFE | waits=2 CC=80 PC=0000 S=07F4 [7F4]=80LOW0000
            """.replace("LOW", PUSHED));
    }

    private static void cwaiStays() {
        Check.sentence("If it waits by CWAI: nothing.");
        Scene.table(ALL + "waits=2", """
            4C | CC=80                   |  | 1
            4C | CC=D0 FIRQ=1 IRQ=1      |  | 1
            4C | CC=C0 FIRQ=1            |  | 1
            4C | CC=90 IRQ=1             |  | 1
            4C | CC=80 NMI=1 armed       |  | 1
            01 | CC=D0 FIRQ=1 IRQ=1 NMI=1 |  | 1
            """);
    }

    private static void undefinedBehindSync() {
        Check.sentence("(a wait that has ended for it has ended)");
        Scene.table(ALL + "waits=1", """
            01    | CC=50 IRQ=1  | waits=0 | 2
            01    | CC=50 FIRQ=1 | waits=0 | 2
            A6 90 | CC=50 FIRQ=1 | waits=0 | 2
            10 20 | CC=50 IRQ=1  | waits=0 | 2
            1F 08 | CC=50 IRQ=1  | waits=0 | 2
            87    | CC=50 IRQ=1 PC=FFFF | waits=0 | 2
            """);
        TwinStackChip chip = new State().with(ALL + "waits=1 CC=50 IRQ=1 [100]=01").build();
        Check.due("undefined", chip.run(50), 1);
        chip.setLine(2, 0);
        Check.due("the line down again: it does not wait", chip.step(), 2);
        Check.due("waits()", chip.waits(), 0);
    }

    private static void waitsTells() {
        Check.sentence("0 it does not wait, 1 by SYNC, 2 by CWAI.");
        TwinStackChip chip = new State().with(ALL + "CC=50 [100]=13133CFF [7A8]=3B").build();
        Check.due("before", chip.waits(), 0);
        chip.step();
        Check.due("behind SYNC", chip.waits(), 1);
        chip.setLine(2, 1);
        Check.due("a line alone ends nothing", chip.waits(), 1);
        Check.due("SYNC behind SYNC", chip.step(), 0);
        Check.due("by SYNC again", chip.waits(), 1);
        Check.due("CWAI behind SYNC", chip.step(), 0);
        Check.due("by CWAI", chip.waits(), 2);
        Check.due("a step that waits", chip.step(), 1);
        Check.due("by CWAI still", chip.waits(), 2);
        chip.put(8, 0xC0);
        Check.due("IRQ", chip.step(), 0);
        Check.due("behind IRQ", chip.waits(), 0);
        chip.setLine(2, 0);
        Check.due("RTI", chip.step(), 0);
        Check.due("no wait comes back", chip.waits(), 0);
        Check.due("PC", chip.reg(6), 0x104);
    }

    private static void othersEndNothing() {
        Check.sentence("waiting ends: by an interrupt, a level or reset, and by no other call");
        for (int wait = 1; wait <= 2; wait++) {
            State start = new State().with(ALL + "CC=D0 waits=" + wait);
            TwinStackChip chip = start.build();
            chip.poke(0x100, 0x4C);
            chip.load(0x101, 0x4C4C4C4C, 4);
            chip.put(0, 1);
            chip.put(6, 0x101);
            chip.put(8, 0);
            chip.setLine(0, 1);
            chip.setLine(0, 0);
            chip.run(0);
            chip.reg(6);
            chip.peek(0);
            chip.lines();
            Check.due("it waits", chip.waits(), wait);
            Check.due("a step", chip.step(), 1);
            start.with("A=01 PC=0101 CC=00").compareRegisters("it waits still", chip);
            chip.reset();
            Check.due("reset ends it", chip.waits(), 0);
        }
    }
}
