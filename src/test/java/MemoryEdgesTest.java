/** Terms: memory, registers and reading an instruction, where they go beyond their edges. */
final class MemoryEdgesTest {
    private static final int[] ADDRESSES = {
        0x0000, 0x0FFF, 0x1000, 0x1FFF, 0x2000, 0x7FFF, 0x8000, 0x8234, 0xF000, 0xFFFE, 0xFFFF,
    };

    public static void main(String[] args) {
        size();
        bytesWrap();
        wordsWrap();
        instructionsWrap();
        accumulatorsTogether();
        bytesOfRegistersWrap();
        wordsOfRegistersWrap();
        addressesStayWide();
        Check.finish();
    }

    private static void size() {
        Check.sentence("MEMORY has 4096 bytes");
        for (int first = 0; first < 4096; first += 128) {
            TwinStackChip chip = new TwinStackChip();
            for (int i = first; i < first + 128; i++) {
                Check.due("poke " + i, chip.poke(i, 255 - i % 251), true);
            }
            for (int i = first; i < first + 128; i++) {
                Check.due("peek " + i, chip.peek(i), 255 - i % 251);
            }
        }
        TwinStackChip chip = new TwinStackChip();
        for (int bit = 0; bit < 12; bit++) {
            chip.poke(1 << bit, bit + 1);
        }
        chip.poke(0, 99);
        for (int bit = 0; bit < 12; bit++) {
            Check.due("each byte is another one", chip.peek(1 << bit), bit + 1);
        }
        Check.due("byte 4096", chip.poke(4096, 1), false);
        Check.due("byte 4096", chip.peek(4096), -1);
        Check.due("byte 0", chip.peek(0), 99);
    }

    private static void bytesWrap() {
        Check.sentence("an address of 16 bits means the byte at address mod 4096");
        for (int address : ADDRESSES) {
            String nn = Hex.four(address);
            String there = "[" + Hex.four(address % 4096) + "]=";
            String full = there + "5A ";
            String behind = Hex.four(address + 1);
            Scene.done("B6" + nn, full, "A=5A");
            Scene.done("F7" + nn, "B=5A", full);
            Scene.done("7C" + nn, full, there + "5B");
            String page = "DP=" + nn.substring(0, 2);
            Scene.done("96" + nn.substring(2), full + page, "A=5A");
            Scene.done("0F" + nn.substring(2), full + page, there + "00 CC=04");
            Scene.done("A6 84", full + "X=" + nn, "A=5A");
            Scene.done("E7 A4", "B=5A Y=" + nn, full);
            Scene.done("35 02", full + "S=" + nn, "A=5A S=" + behind);
            Scene.done("37 02", full + "U=" + nn, "A=5A U=" + behind);
            Scene.done("34 02", "A=5A S=" + behind, full + "S=" + nn);
            Scene.done("36 02", "A=5A U=" + behind, full + "U=" + nn);
            Scene.done("4C", "A=59 PC=" + nn, "A=5A");
        }
    }

    private static void wordsWrap() {
        Check.sentence("Words have the higher byte first");
        for (int address : ADDRESSES) {
            String nn = Hex.four(address);
            String low = Hex.four((address + 1) % 4096);
            String full = "[" + Hex.four(address % 4096) + "]=12 [" + low + "]=34 ";
            String behind = Hex.four(address + 2);
            Scene.done("BE" + nn, full, "X=1234");
            Scene.done("FD" + nn, "D=1234", full);
            Scene.done("F3" + nn, full + "D=0101", "D=1335");
            Scene.done("10 AC 84", full + "Y=1234 X=" + nn, "CC=04");
            Scene.done("10 EF 84", "S=1234 X=" + nn, full);
            Scene.done("35 20", full + "S=" + nn, "Y=1234 S=" + behind);
            Scene.done("36 10", "X=1234 U=" + behind, full + "U=" + nn);
            Scene.done("39", full + "S=" + nn, "PC=1234 S=" + behind);
            Scene.done("33 9F" + nn, full, "U=1234");
            Scene.done("33 94", full + "X=" + nn, "U=1234");
        }
    }

    private static void instructionsWrap() {
        Check.sentence("An instruction is read from PC on, PC going on behind each byte");
        int[] starts = {0x0FFC, 0x0FFD, 0x0FFE, 0x0FFF, 0xFFFC, 0xFFFD, 0xFFFE, 0xFFFF};
        for (int start : starts) {
            String pc = "PC=" + Hex.four(start) + " ";
            Scene.done("12", pc, "");
            Scene.done("86 5A", pc, "A=5A");
            Scene.done("96 50", pc + "DP=03 [350]=5A", "A=5A");
            Scene.done("CC 12 34", pc, "D=1234");
            Scene.done("B6 03 50", pc + "[350]=5A", "A=5A");
            Scene.done("10 8E 12 34", pc, "Y=1234");
            Scene.done("10 3F", pc + "S=0800 [FF4]=0300", "S=07F4 CC=80 PC=0300"
                + " [7F4]=8000000000000000 [7FC]=0900 [7FE]=" + Hex.four(start + 2));
            Scene.done("A6 89 03 50", pc + "[350]=5A", "A=5A");
            Scene.done("1F 50", pc, "D=" + Hex.four(start + 2));
            Scene.done("34 80", pc + "S=0800", "S=07FE [7FE]=" + Hex.four(start + 2));
            Scene.undefined("10 20 00 10", pc);
            Scene.undefined("A6 87", pc);
        }
    }

    private static void accumulatorsTogether() {
        Check.sentence("A and B of 8 bits, together D (A the higher byte)");
        Scene.table("""
            C3 00 01 | A=00 B=FF | A=01 B=00
            83 00 01 | A=01 B=00 | A=00 B=FF
            CC 00 FF |           | A=00 B=FF
            CC FF 00 |           | A=FF B=00 CC=08
            1E 01    | A=12 B=34 X=5678 | A=56 B=78 X=1234
            FD 03 50 | A=12 B=34 | [350]=1234
            """);
    }

    private static void bytesOfRegistersWrap() {
        Check.sentence("All wrap. (registers of 8 bits)");
        Scene.table("""
            4C       | A=FF | A=00 CC=04
            4A       | A=00 | A=FF CC=08
            5C       | B=FF | B=00 CC=04
            5A       | B=00 | B=FF CC=08
            8B FF    | A=FF | A=FE CC=29
            80 01    | A=00 | A=FF CC=09
            CB 01    | B=FF | B=00 CC=25
            C0 FF    | B=00 | B=01 CC=01
            48       | A=C0 | A=80 CC=09
            19       | A=9A | A=00 CC=05
            1F 8B    | A=FF | DP=FF
            1A FF    |      | CC=FF
            """);
    }

    private static void wordsOfRegistersWrap() {
        Check.sentence("All wrap. (registers of 16 bits)");
        Scene.table("""
            C3 00 01 | D=FFFF      | D=0000 CC=05
            83 00 01 | D=0000      | D=FFFF CC=09
            30 01    | X=FFFF      | X=0000 CC=04
            30 1F    | X=0000      | X=FFFF
            3A       | X=FFFF B=01 | X=0000
            3A       | X=FF80 B=FF | X=007F
            31 21    | Y=FFFF      | Y=0000 CC=04
            31 3F    | Y=0000      | Y=FFFF
            33 41    | U=FFFF      | U=0000
            33 5F    | U=0000      | U=FFFF
            32 61    | S=FFFF      | S=0000 armed
            32 7F    | S=0000      | S=FFFF armed
            34 02    | S=0000 A=5A | S=FFFF [FFF]=5A
            34 10    | S=0001 X=1234 | S=FFFF [FFF]=12 [000]=34
            35 02    | S=FFFF [FFF]=5A | S=0000 A=5A
            36 02    | U=0000 A=5A | U=FFFF [FFF]=5A
            37 10    | U=FFFE [FFE]=1234 | U=0000 X=1234
            12       | PC=FFFF     | PC=0000
            20 00    | PC=FFFE     | PC=0000
            20 FD    | PC=0000     | PC=FFFF
            16 FF FC | PC=0000     | PC=FFFF
            16 80 00 | PC=8000     | PC=0003
            """);
    }

    private static void addressesStayWide() {
        Check.sentence("X, Y, U, S and PC of 16");
        Scene.table("""
            30 01    | X=0FFF      | X=1000
            30 1F    | X=1000      | X=0FFF
            31 21    | Y=7FFF      | Y=8000
            A6 80    | X=0FFF [FFF]=5A | X=1000 A=5A
            A6 A2    | Y=F000 [FFF]=5A | Y=EFFF A=5A
            35 02    | S=0FFF [FFF]=5A | S=1000 A=5A
            34 02    | S=1000 A=5A | S=0FFF [FFF]=5A
            36 02    | U=F000 A=5A | U=EFFF [FFF]=5A
            12       | PC=0FFF     | PC=1000
            12       | PC=1000     | PC=1001
            20 00    | PC=0FFE     | PC=1000
            20 FD    | PC=1000     | PC=0FFF
            7E F0 00 |             | PC=F000
            39       | S=0300 [300]=FFFF | S=0302 PC=FFFF
            """);
    }
}
