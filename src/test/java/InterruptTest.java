/** Promises 6, 8, 11 and 12: interrupts by lines and by instructions, RTI, SYNC and CWAI. */
final class InterruptTest {
    private static final String VECTORS = " [FF2]=A1A2 [FF4]=A3A4 [FF6]=A5A6 [FF8]=A7A8"
        + " [FFA]=A9AA [FFC]=ABAC [FFE]=ADAE ";
    private static final String ALL = "A=1A B=2B X=3C4D Y=5E6F U=8A9B S=0800 PC=0100 DP=71"
        + VECTORS;

    public static void main(String[] args) {
        software();
        byLines();
        masks();
        precedence();
        sync();
        cwai();
        cwaiIsLeft();
        returns();
        thereAndBack();
        undefinedBehindSync();
        Check.finish();
    }

    /** What pushing all leaves from 7F4 on. */
    private static String pushed(String cc, String pc) {
        return " S=07F4 [7F4]=" + cc + "1A2B713C4D5E6F8A9B" + pc + " ";
    }

    private static void software() {
        Scene.done("3F", ALL + "CC=05", pushed("85", "0101") + "CC=D5 PC=A9AA");
        Scene.done("10 3F", ALL + "CC=05", pushed("85", "0102") + "CC=85 PC=A3A4");
        Scene.done("11 3F", ALL + "CC=05", pushed("85", "0102") + "CC=85 PC=A1A2");
        Scene.done("3F", ALL + "CC=FF", pushed("FF", "0101") + "CC=FF PC=A9AA");
        Scene.done("10 3F", ALL + "CC=50", pushed("D0", "0102") + "CC=D0 PC=A3A4");
        Scene.done("11 3F", ALL + "CC=00", pushed("80", "0102") + "CC=80 PC=A1A2");
    }

    private static void byLines() {
        Scene.answers(0, "4C", ALL + "CC=05 armed due NMI=1",
            pushed("85", "0100") + "CC=D5 PC=ABAC undue");
        Scene.answers(0, "4C", ALL + "CC=FF armed due NMI=0",
            pushed("FF", "0100") + "CC=FF PC=ABAC undue");
        Scene.answers(0, "4C", ALL + "CC=05 IRQ=1", pushed("85", "0100") + "CC=95 PC=A7A8");
        Scene.answers(0, "4C", ALL + "CC=C0 IRQ=1", pushed("C0", "0100") + "CC=D0 PC=A7A8");
        Scene.answers(0, "4C", ALL + "CC=05 FIRQ=1",
            "S=07FD [7FD]=050100 CC=55 PC=A5A6");
        Scene.answers(0, "4C", ALL + "CC=9F FIRQ=1",
            "S=07FD [7FD]=1F0100 CC=5F PC=A5A6");
        // An interrupt comes before an undefined instruction.
        Scene.answers(0, "01", ALL + "CC=00 IRQ=1", pushed("80", "0100") + "CC=90 PC=A7A8");
    }

    private static void masks() {
        Scene.done("4C", ALL + "CC=10 IRQ=1", "A=1B CC=10");
        Scene.done("4C", ALL + "CC=40 FIRQ=1", "A=1B CC=40");
        Scene.done("4C", ALL + "CC=50 IRQ=1 FIRQ=1", "A=1B CC=50");
        Scene.done("4C", ALL + "CC=00 NMI=1", "A=1B");
        Scene.done("4C", ALL + "CC=00 NMI=1 armed", "A=1B");
        Scene.answers(0, "4C", ALL + "CC=40 FIRQ=1 IRQ=1", pushed("C0", "0100") + "CC=D0 PC=A7A8");
        Scene.answers(0, "4C", ALL + "CC=10 FIRQ=1 IRQ=1", "S=07FD [7FD]=100100 CC=50 PC=A5A6");
        Scene.undefined("01", ALL + "CC=50 IRQ=1 FIRQ=1");
    }

    private static void precedence() {
        Scene.answers(0, "4C", ALL + "CC=00 armed due NMI=1 FIRQ=1 IRQ=1",
            pushed("80", "0100") + "CC=D0 PC=ABAC undue");
        Scene.answers(0, "4C", ALL + "CC=00 FIRQ=1 IRQ=1", "S=07FD [7FD]=000100 CC=50 PC=A5A6");
        State start = new State().with(ALL + "CC=00 FIRQ=1 IRQ=1 [5A6]=1CAF [5A8]=12");
        TwinStackChip chip = start.build();
        Check.due("FIRQ first", chip.run(2), 2);
        Check.due("its routine lets it in again", chip.reg(8), 0x00);
        Check.due("FIRQ again", chip.step(), 0);
        Check.due("its S", chip.reg(5), 0x7FA);
        chip.setLine(1, 0);
        chip.put(8, 0);
        Check.due("then IRQ", chip.step(), 0);
        Check.due("its PC", chip.reg(6), 0xA7A8);
    }

    private static void sync() {
        Scene.done("13", ALL + "CC=0F", "waits=1");
        Scene.done("13", ALL + "CC=50 IRQ=1", "waits=1");
        Scene.answers(1, "4C", ALL + "waits=1", "");
        Scene.answers(1, "01", ALL + "waits=1", "");
        Scene.answers(1, "4C", ALL + "waits=1 NMI=1", "");
        Scene.answers(1, "4C", ALL + "waits=1 NMI=1 armed", "");
        Scene.done("4C", ALL + "waits=1 CC=50 IRQ=1", "waits=0 A=1B");
        Scene.done("4C", ALL + "waits=1 CC=50 FIRQ=1", "waits=0 A=1B");
        Scene.done("4C", ALL + "waits=1 CC=40 FIRQ=1", "waits=0 A=1B");
        Scene.done("4C", ALL + "waits=1 CC=10 IRQ=1", "waits=0 A=1B");
        Scene.done("13", ALL + "waits=1 CC=10 IRQ=1", "waits=1");
        Scene.answers(0, "4C", ALL + "waits=1 CC=00 IRQ=1",
            pushed("80", "0100") + "CC=90 PC=A7A8 waits=0");
        Scene.answers(0, "4C", ALL + "waits=1 CC=80 FIRQ=1",
            "S=07FD [7FD]=000100 CC=50 PC=A5A6 waits=0");
        Scene.answers(0, "4C", ALL + "waits=1 CC=50 armed due",
            pushed("D0", "0100") + "CC=D0 PC=ABAC undue waits=0");
    }

    private static void cwai() {
        Scene.done("3C FF", ALL + "CC=55", pushed("D5", "0102") + "CC=D5 waits=2");
        Scene.done("3C EF", ALL + "CC=50", pushed("C0", "0102") + "CC=C0 waits=2");
        Scene.done("3C 00", ALL + "CC=7F", pushed("80", "0102") + "CC=80 waits=2");
        // A line is no matter while the instruction itself is done, if it is masked then.
        Scene.done("3C AF", ALL + "CC=50 FIRQ=1 IRQ=1", pushed("80", "0102") + "CC=80 waits=2");
        Scene.answers(1, "4C", ALL + "CC=80 waits=2", "");
        Scene.answers(1, "4C", ALL + "CC=D0 waits=2 FIRQ=1 IRQ=1", "");
        Scene.answers(1, "01", ALL + "CC=90 waits=2 IRQ=1 NMI=1", "");
    }

    private static void cwaiIsLeft() {
        Scene.answers(0, "4C", ALL + "CC=80 waits=2 IRQ=1", "CC=90 PC=A7A8 waits=0");
        Scene.answers(0, "4C", ALL + "CC=80 waits=2 FIRQ=1", "CC=D0 PC=A5A6 waits=0");
        Scene.answers(0, "4C", ALL + "CC=C5 waits=2 IRQ=1 FIRQ=1", "CC=D5 PC=A7A8 waits=0");
        Scene.answers(0, "4C", ALL + "CC=80 waits=2 IRQ=1 FIRQ=1", "CC=D0 PC=A5A6 waits=0");
        Scene.answers(0, "4C", ALL + "CC=D0 waits=2 armed due IRQ=1",
            "CC=D0 PC=ABAC waits=0 undue");
        // CC is what put has made it; nothing is pushed or turned on a second time.
        Scene.answers(0, "4C", ALL + "CC=00 waits=2 IRQ=1", "CC=10 PC=A7A8 waits=0");
        Scene.answers(0, "4C", ALL + "CC=0F waits=2 FIRQ=1", "CC=5F PC=A5A6 waits=0");
    }

    private static void returns() {
        Scene.done("3B", "S=0300 [300]=8511220344556677889900AB CC=FF",
            "S=030C CC=85 A=11 B=22 DP=03 X=4455 Y=6677 U=8899 PC=00AB");
        Scene.done("3B", "S=0300 [300]=05112233 CC=FF", "S=0303 CC=05 PC=1122");
        Scene.done("3B", "S=0300 [300]=7F112233 CC=80", "S=0303 CC=7F PC=1122");
        Scene.done("3B", "S=FFFF [FFF]=00 [000]=1122", "S=0002 CC=00 PC=1122");
    }

    private static void thereAndBack() {
        State start = new State().with("A=1A B=2B X=3C4D Y=5E6F U=8A9B S=0800 PC=0100 DP=71 CC=05"
            + " [FF8]=0200 [FF6]=0240 [FFC]=0280 [100]=3CAF1212 [200]=3B [240]=3B [280]=3B");
        for (int line = 0; line < 3; line++) {
            TwinStackChip chip = start.with("armed").build();
            Check.due("CWAI", chip.step(), 0);
            Check.due("waits", chip.step(), 1);
            chip.setLine(line, 1);
            Check.due("taken", chip.step(), 0);
            chip.setLine(line, 0);
            Check.due("RTI", chip.step(), 0);
            // E, as CWAI pushed it, is on: RTI pulls all, after FIRQ too.
            start.with("armed PC=0102 CC=85").compareRegisters("back from line " + line, chip);
        }
        for (int line = 0; line < 3; line++) {
            TwinStackChip chip = start.with("armed PC=0102").build();
            chip.setLine(line, 1);
            Check.due("taken", chip.step(), 0);
            chip.setLine(line, 0);
            Check.due("RTI", chip.step(), 0);
            String cc = line == 1 ? "05" : "85";
            start.with("armed PC=0102 CC=" + cc).compareRegisters("back from " + line, chip);
        }
    }

    private static void undefinedBehindSync() {
        Scene.answers(2, "01", ALL + "waits=1 CC=50 IRQ=1", "waits=0");
        Scene.answers(2, "A6 87", ALL + "waits=1 CC=50 FIRQ=1", "waits=0");
        Scene.answers(2, "10 20", ALL + "waits=1 CC=50 FIRQ=1", "waits=0");
    }
}
