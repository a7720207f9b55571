/** Terms: the lines, what arms NMI and makes it due, and which interrupt a step takes. */
final class InterruptEdgesTest {
    private static final String ALL = "A=1A B=2B X=3C4D Y=5E6F U=8A9B S=0800 PC=0100 DP=71"
        + " [FF6]=A5A6A7A8 [FFC]=ABAC ";
    private static final String PUSHED = "1A2B713C4D5E6F8A9B0100 ";

    public static void main(String[] args) {
        due();
        arms();
        armsNothing();
        afterReset();
        first();
        dueNoMore();
        pushes();
        stacksWrap();
        afterCwai();
        eStaysOn();
        Check.finish();
    }

    private static void due() {
        Check.sentence("When NMI goes from 0 to 1, and it is ARMED, an NMI is DUE");
        for (int bits = 0; bits < 16; bits++) {
            boolean armed = (bits & 1) != 0;
            boolean wasDue = (bits & 8) != 0;
            int from = bits >> 1 & 1;
            int to = bits >> 2 & 1;
            if (wasDue && !armed) {
                continue;
            }
            State state = new State().with(armed ? "armed" : "").with(wasDue ? "due" : "")
                .with("NMI=" + from);
            TwinStackChip chip = state.build();
            Check.due("setLine(0, " + to + ")", chip.setLine(0, to), true);
            boolean due = wasDue || armed && from == 0 && to == 1;
            State then = state.with("NMI=" + to).with(due ? "due" : "");
            then.compareRegisters("NMI from " + from + " to " + to + ", armed " + armed, chip);
        }
        TwinStackChip chip = new State().with("PC=0100 NMI=1 CC=50 [100]=10CE08001212").build();
        Check.due("armed while NMI is 1", chip.step(), 0);
        Check.due("that is not going from 0 to 1", chip.lines(), 5);
        Check.due("no interrupt", chip.step(), 0);
        Check.due("but an instruction", chip.reg(6), 0x105);
    }

    private static void arms() {
        Check.sentence("it is armed by the first LD of S,"
            + " and by 1E, 1F, 32 or 37 with S as what becomes something");
        for (String armed : new String[] {"", " armed"}) {
            Scene.table("X=0300 [300]=0456" + armed, """
                10 CE 00 00 |  | S=0000 CC=04 armed
                10 DE 00    | DP=03 | S=0456 armed
                10 EE 84    |  | S=0456 armed
                10 FE 03 00 |  | S=0456 armed
                1E 14       |  | X=0800 S=0300 armed
                1E 41       |  | X=0800 S=0300 armed
                1E 44       |  | armed
                1F 14       |  | S=0300 armed
                1F 44       |  | armed
                1F 54       |  | S=0102 armed
                32 84       |  | S=0300 armed
                32 60       |  | S=0800 armed
                37 40       | U=0300 | U=0302 S=0456 armed
                37 FF       | U=0300 | U=030C S=0000 CC=04 A=56 PC=0000 X=0000 armed
                """);
        }
    }

    private static void armsNothing() {
        Check.sentence("with S as what becomes something");
        Scene.table("X=0300 [300]=0456 NMI=1", """
            1F 41       |  | X=0800
            1F 40       |  | D=0800
            1E 12       | Y=0500 | X=0500 Y=0300
            30 E1       |  | X=0800 S=0802
            A6 E0       |  | S=0801 CC=04
            A6 E3       |  | S=07FE CC=04
            33 84       |  | U=0300
            34 02       |  | S=07FF
            35 02       |  | S=0801
            35 40       |  | S=0802 U=0000
            36 40       |  | U=08FE [8FE]=0800
            37 BF       |  | U=090A PC=0000 X=0000
            10 DF 00    | DP=03 | [300]=0800
            11 8C 08 00 |  | CC=04
            39          |  | S=0802 PC=0000
            3B          |  | S=0803 PC=0000
            8D 00       |  | S=07FE [7FE]=0102
            CE 12 34    |  | U=1234
            10 EE 87    |  | undefined
            32 90       |  | undefined
            1F 84       |  | undefined
            1E 64       |  | undefined
            """);
        TwinStackChip chip = new TwinStackChip();
        chip.put(5, 0x800);
        Check.due("put arms nothing", chip.lines(), 0);
    }

    private static void afterReset() {
        Check.sentence("after the last reset");
        TwinStackChip chip = new TwinStackChip();
        chip.load(0x100, 0x10CE0800, 4);
        chip.load(0xFFE, 0x0100, 2);
        for (int round = 0; round < 3; round++) {
            chip.reset();
            Check.due("reset disarms", chip.lines(), 0);
            chip.setLine(0, 1);
            Check.due("not due", chip.lines(), 4);
            chip.setLine(0, 0);
            Check.due("LD of S", chip.step(), 0);
            Check.due("armed", chip.lines(), 1);
            chip.setLine(0, 1);
            Check.due("due", chip.lines(), 7);
            chip.setLine(0, 0);
            Check.due("still due", chip.lines(), 3);
        }
    }

    /** All lines, masks and waits together; which one comes first is told by PC. */
    private static void first() {
        Check.sentence("the interrupt is taken that comes first of these: NMI, if due; FIRQ, if its"
            + " level is 1 and F is off; IRQ, if its level is 1 and I is off");
        for (int bits = 0; bits < 32; bits++) {
            for (int wait = 0; wait < 3; wait++) {
                boolean due = (bits & 1) != 0;
                boolean firq = (bits & 2) != 0;
                boolean irq = (bits & 4) != 0;
                boolean f = (bits & 8) != 0;
                boolean i = (bits & 16) != 0;
                String words = (due ? "armed due " : "") + "FIRQ=" + (firq ? 1 : 0) + " IRQ="
                    + (irq ? 1 : 0) + " CC=" + Hex.two((f ? 0x40 : 0) | (i ? 0x10 : 0)) + " waits="
                    + wait;
                TwinStackChip chip = new State().with(ALL + "[100]=4C " + words).build();
                boolean stays = wait == 2 || wait == 1 && !firq && !irq;
                int pc = due ? 0xABAC : firq && !f ? 0xA5A6 : irq && !i ? 0xA7A8
                    : stays ? 0x100 : 0x101;
                Check.due("step with " + words, chip.step(), pc == 0x100 ? 1 : 0);
                Check.due("PC with " + words, chip.reg(6), pc);
                Check.due("A with " + words, chip.reg(0), pc == 0x101 ? 0x1B : 0x1A);
                Check.due("waits() with " + words, chip.waits(), pc == 0x100 ? wait : 0);
                Check.due("due no more with " + words, chip.lines() & 2, 0);
            }
        }
    }

    private static void dueNoMore() {
        Check.sentence("NMI is due no more");
        TwinStackChip chip = new State().with(ALL + "armed due NMI=1 CC=00 [BAC]=121212").build();
        Check.due("NMI", chip.step(), 0);
        Check.due("its level stays", chip.lines(), 5);
        Check.due("once", chip.step(), 0);
        Check.due("and no more", chip.reg(6), 0xABAD);
        chip.setLine(0, 1);
        Check.due("from 1 to 1", chip.lines(), 5);
        chip.setLine(0, 0);
        chip.setLine(0, 1);
        chip.setLine(0, 0);
        chip.setLine(0, 1);
        Check.due("up twice", chip.lines(), 7);
        Check.due("NMI", chip.step(), 0);
        Check.due("S", chip.reg(5), 0x7E8);
        Check.due("taken once", chip.step(), 0);
        Check.due("S", chip.reg(5), 0x7E8);
        Scene.answers(0, "12", ALL + "armed due NMI=0 CC=FF",
            "undue CC=FF PC=ABAC S=07F4 [7F4]=FF" + PUSHED);
    }

    private static void pushes() {
        Check.sentence("for NMI and IRQ E on and all pushed, for FIRQ E off and PC, then CC pushed;"
            + " then I on, for NMI and FIRQ F on too; PC is the word at FFFC, FFF6, FFF8;"
            + " waiting ends.");
        for (String wait : "0 1".split(" ")) {
            Scene.table(ALL + "waits=" + wait, """
                01 | armed due CC=00 | CC=D0 PC=ABAC undue waits=0 S=07F4 [7F4]=80LOW | 0
                01 | armed due CC=AF | CC=FF PC=ABAC undue waits=0 S=07F4 [7F4]=AFLOW | 0
                01 | armed due CC=7F | CC=FF PC=ABAC undue waits=0 S=07F4 [7F4]=FFLOW | 0
                01 | IRQ=1 CC=00     | CC=90 PC=A7A8 waits=0 S=07F4 [7F4]=80LOW | 0
                01 | IRQ=1 CC=EF     | CC=FF PC=A7A8 waits=0 S=07F4 [7F4]=EFLOW | 0
                01 | IRQ=1 CC=4F     | CC=DF PC=A7A8 waits=0 S=07F4 [7F4]=CFLOW | 0
                01 | FIRQ=1 CC=00    | CC=50 PC=A5A6 waits=0 S=07FD [7FD]=000100 | 0
                01 | FIRQ=1 CC=BF    | CC=7F PC=A5A6 waits=0 S=07FD [7FD]=3F0100 | 0
                01 | FIRQ=1 CC=8F    | CC=5F PC=A5A6 waits=0 S=07FD [7FD]=0F0100 | 0
                """.replace("LOW", PUSHED.strip()));
        }
    }

    private static void stacksWrap() {
        Check.sentence("All wrap. (S, while an interrupt is taken)");
        Scene.table(ALL, """
            12 | S=0006 IRQ=1     | S=FFFA CC=90 PC=A7A8 [FFA]=801A2B713C4D5E6F8A9B0100 | 0
            12 | S=0001 FIRQ=1    | S=FFFE CC=50 PC=A5A6 [FFE]=000100 | 0
            12 | S=0001 armed due | S=FFF5 CC=D0 PC=6F8A undue [FF5]=801A2B713C4D5E6F8A9B0100 | 0
            12 | S=1000 IRQ=1     | S=0FF4 CC=90 PC=3C4D [FF4]=801A2B713C4D5E6F8A9B0100 | 0
            12 | S=0FF8 FIRQ=1    | S=0FF5 CC=50 PC=0100 [FF5]=000100 | 0
            12 | S=0800 PC=FFFF FIRQ=1 | S=07FD CC=50 PC=A5A6 [7FD]=00FFFF | 0
            """);
    }

    private static void afterCwai() {
        Check.sentence("unless CWAI has pushed all");
        Scene.table(ALL + "waits=2", """
            01 | armed due CC=80 | CC=D0 PC=ABAC undue waits=0 | 0
            01 | armed due CC=FF | CC=FF PC=ABAC undue waits=0 | 0
            01 | IRQ=1 CC=80     | CC=90 PC=A7A8 waits=0 | 0
            01 | IRQ=1 CC=CF     | CC=DF PC=A7A8 waits=0 | 0
            01 | FIRQ=1 CC=80    | CC=D0 PC=A5A6 waits=0 | 0
            01 | FIRQ=1 CC=9F    | CC=DF PC=A5A6 waits=0 | 0
            """);
        TwinStackChip chip = new State().with(ALL + "CC=00 [100]=3CFF [5A6]=1CAF [5A8]=12").build();
        Check.due("CWAI", chip.step(), 0);
        chip.setLine(1, 1);
        Check.due("FIRQ, nothing pushed", chip.step(), 0);
        Check.due("S", chip.reg(5), 0x7F4);
        Check.due("F and I off", chip.step(), 0);
        Check.due("FIRQ again", chip.step(), 0);
        Check.due("which pushes: CWAI is over", chip.reg(5), 0x7F1);
    }

    private static void eStaysOn() {
        Check.sentence("(E, as it was pushed by CWAI, stays on there.)");
        State start = new State().with(ALL + "CC=25 armed [100]=3CAF12 [BAC]=3B [7A8]=3B [5A6]=3B");
        for (int line = 0; line < 3; line++) {
            TwinStackChip chip = start.build();
            Check.due("CWAI", chip.step(), 0);
            chip.setLine(line, 1);
            Check.due("line " + line, chip.step(), 0);
            Check.due("E on the stack", chip.peek(0x7F4), 0xA5);
            Check.due("E in CC", chip.reg(8) & 0x80, 0x80);
            chip.setLine(line, 0);
            Check.due("RTI", chip.step(), 0);
            start.with("PC=0102 CC=A5").compareRegisters("back by all that CWAI pushed", chip);
        }
    }
}
