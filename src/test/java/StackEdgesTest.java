/** Terms: pushes, pulls, RTI and software interrupts, at the edges of stacks and choices. */
final class StackEdgesTest {
    private static final String ALL = "A=1A B=2B X=3C4D Y=5E6F DP=71 CC=C5";
    private static final String VECTORS = " [FF2]=A1A2A3A4 [FFA]=A9AA";

    public static void main(String[] args) {
        pushes();
        pulls();
        order();
        returns();
        softwareInterrupts();
        vectorsBehindThePush();
        Check.finish();
    }

    private static void pushes() {
        Check.sentence("34, 36 n: pushed on S, on U, each if its bit is on");
        Scene.table(ALL, """
            34 00 | S=0000 U=8A9B | S=0000
            36 00 | U=0000 S=8A9B | U=0000
            34 01 | S=0000        | S=FFFF [FFF]=C5
            36 01 | U=0000        | U=FFFF [FFF]=C5
            34 40 | S=0800 U=8A9B | S=07FE [7FE]=8A9B
            36 40 | U=0800 S=8A9B | U=07FE [7FE]=8A9B
            34 FF | S=0800 U=8A9B | S=07F4 [7F4]=C51A2B71 [7F8]=3C4D5E6F [7FC]=8A9B0102
            36 FF | U=0800 S=8A9B | U=07F4 [7F4]=C51A2B71 [7F8]=3C4D5E6F [7FC]=8A9B0102
            34 FF | S=0004 U=8A9B | S=FFF8 [FF8]=C51A2B71 [FFC]=3C4D5E6F [000]=8A9B0102
            36 FF | U=1004 S=8A9B | U=0FF8 [FF8]=C51A2B71 [FFC]=3C4D5E6F [000]=8A9B0102
            34 FF | S=0103 U=8A9B | S=00F7 [0F7]=C51A2B71 [0FB]=3C4D5E6F [0FF]=8A9B0102
            """);
    }

    private static void pulls() {
        Check.sentence("35, 37 n: pulled from S, from U, the other way round.");
        Scene.table(ALL, """
            35 00 | S=0000 U=8A9B | S=0000
            37 00 | U=FFFF S=8A9B | U=FFFF
            35 01 | S=FFFF [FFF]=3A | S=0000 CC=3A
            37 01 | U=FFFF [FFF]=3A | U=0000 CC=3A
            35 40 | S=FFFF [FFF]=12 [000]=34 | S=0001 U=1234
            37 40 | U=FFFF [FFF]=12 [000]=34 | U=0001 S=1234 armed
            35 80 | S=FFFE [FFE]=FFFF | S=0000 PC=FFFF
            """);
        String bytes = " [FF8]=D1D2D3D4 [FFC]=D5D6D7D8 [000]=D9DADBDC ";
        String pulled = " CC=D1 A=D2 B=D3 DP=D4 X=D5D6 Y=D7D8 PC=DBDC";
        Scene.done("35 FF", ALL + bytes + "S=FFF8", "S=0004 U=D9DA" + pulled);
        Scene.done("37 FF", ALL + bytes + "U=0FF8", "U=1004 armed S=D9DA" + pulled);
    }

    private static void order() {
        Check.sentence("in this order; words: the lower byte first, each byte:"
            + " the stack register becomes less by 1, the byte is put there");
        String[] names = {"CC", "A", "B", "DP", "X", "Y", "U", "PC"};
        String[] values = {"C5", "1A", "2B", "71", "3C4D", "5E6F", "8A9B", "0102"};
        for (int lower = 0; lower < 8; lower++) {
            for (int upper = lower + 1; upper < 8; upper++) {
                String bytes = values[lower] + values[upper];
                int behind = 0x0FFE + bytes.length() / 2;
                String which = Hex.two(1 << lower | 1 << upper);
                Scene.done("34" + which, ALL + " U=8A9B S=" + Hex.four(behind),
                    "S=0FFE [FFE]=" + bytes);
                String pulled = " " + names[lower] + "=" + values[lower] + " " + names[upper] + "="
                    + values[upper];
                Scene.done("35" + which, "S=0FFE [FFE]=" + bytes, "S=" + Hex.four(behind) + pulled);
            }
        }
    }

    private static void returns() {
        Check.sentence("3B: RTI: CC pulled from S; then, if E is on, A, B, DP, X, Y, U, PC;"
            + " else PC alone.");
        String pulled = " A=D1 B=D2 DP=D3 X=D4D5 Y=D6D7 U=D8D9 PC=DADB";
        Scene.table("""
            3B | S=0300 CC=00 [300]=80D1D2D3D4D5D6D7D8D9DADB | S=030C CC=80 ALL
            3B | S=0300 CC=FF [300]=7FD1D2D3 | S=0303 CC=7F PC=D1D2
            3B | S=0300 CC=80 [300]=00FFFF   | S=0303 CC=00 PC=FFFF
            3B | S=FFFF CC=80 [FFF]=00 [000]=D1D2 | S=0002 CC=00 PC=D1D2
            3B | S=FFFE CC=00 [FFE]=00D1 [000]=D2 | S=0001 CC=00 PC=D1D2
            3B | S=FFFA CC=00 [FFA]=FFD1D2D3D4D5D6D7D8D9DADB | S=0006 CC=FF ALL
            """.replace("ALL", pulled));
    }

    private static void softwareInterrupts() {
        Check.sentence("SWI, SWI2, SWI3: E on, all is pushed on S as by 34 FF,"
            + " PC being that behind it; SWI alone: I and F on");
        String low = "1A2B713C4D5E6F8A9B";
        Scene.table(ALL + " U=8A9B S=0800" + VECTORS, """
            3F    | CC=00 | S=07F4 [7F4]=80LOW0101 CC=D0 PC=A9AA
            10 3F | CC=00 | S=07F4 [7F4]=80LOW0102 CC=80 PC=A3A4
            11 3F | CC=00 | S=07F4 [7F4]=80LOW0102 CC=80 PC=A1A2
            3F    | CC=7F | S=07F4 [7F4]=FFLOW0101 CC=FF PC=A9AA
            10 3F | CC=7F | S=07F4 [7F4]=FFLOW0102 CC=FF PC=A3A4
            11 3F | CC=AF | S=07F4 [7F4]=AFLOW0102 CC=AF PC=A1A2
            3F    | PC=FFFF CC=00 | S=07F4 [7F4]=80LOW0000 CC=D0 PC=A9AA
            """.replace("LOW", low));
        Scene.done("3F", ALL + " U=8A9B S=0006 CC=00" + VECTORS, "S=FFFA CC=D0 PC=801A"
            + " [FFA]=801A2B713C4D [000]=5E6F8A9B0101");
    }

    private static void vectorsBehindThePush() {
        Check.sentence("all is pushed on S ..; PC is the word at FFFA, FFF4, FFF2");
        String pushed = "S=0FF4 [FF4]=801A2B71 [FF8]=3C4D5E6F [FFC]=8A9B";
        Scene.table(ALL + " U=8A9B S=1000 CC=00" + VECTORS, """
            3F    |  | PUSHED [FFE]=0101 CC=D0 PC=5E6F
            10 3F |  | PUSHED [FFE]=0102 CC=80 PC=801A
            11 3F |  | PUSHED [FFE]=0102 CC=80 PC=A1A2
            """.replace("PUSHED", pushed));
        Scene.done("11 3F", ALL + " U=8A9B S=0FFE CC=00" + VECTORS,
            "S=0FF2 [FF2]=801A2B71 [FF6]=3C4D5E6F [FFA]=8A9B0102 CC=80 PC=801A");
    }
}
