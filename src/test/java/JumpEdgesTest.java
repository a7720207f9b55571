/** Terms: branches and calls, at the edges of what they add to PC. */
final class JumpEdgesTest {
    // The flags under which each branch goes, and those under which it does not.
    private static final String[] SHORT = {
        "22:00:01,04,05", "23:01,04,05:00", "24:00,0E:01", "25:01:00,0E", "26:00,0B:04",
        "27:04:00,0B", "28:00,0D:02", "29:02:00,0D", "2A:00,07:08", "2B:08:00,07",
        "2C:00,0A,0F:02,08", "2D:02,08,0D:00,0A", "2E:00,0A,0B:04,02,08,0E",
        "2F:04,02,08,0E:00,0A,0B",
    };

    public static void main(String[] args) {
        offsets();
        conditions();
        noPostbytes();
        longBranches();
        longJumps();
        jumps();
        calls();
        Check.finish();
    }

    private static void offsets() {
        Check.sentence("2x sn: PC grows by sn if: 0 always, 1 never");
        for (int pc : new int[] {0x0100, 0x0000, 0x007D, 0x0FFE, 0x8000, 0xFFFD, 0xFFFE, 0xFFFF}) {
            for (int v : new int[] {0x00, 0x01, 0x7F, 0x80, 0xFE, 0xFF}) {
                int then = pc + 2 + (v < 0x80 ? v : v - 0x100);
                String before = "PC=" + Hex.four(pc) + " CC=";
                for (String flags : "00 FF".split(" ")) {
                    Scene.done("20" + Hex.two(v), before + flags, "PC=" + Hex.four(then));
                    Scene.done("21" + Hex.two(v), before + flags, "PC=" + Hex.four(pc + 2));
                }
            }
        }
    }

    private static void conditions() {
        Check.sentence("2 not (C or Z), 3 C or Z, .. F Z or N is not V");
        for (String row : SHORT) {
            String[] cells = row.split(":");
            for (String flags : cells[1].split(",")) {
                Scene.done(cells[0] + "80", "CC=" + flags, "PC=0082");
                Scene.done("10" + cells[0] + "8000", "CC=" + flags, "PC=8104");
            }
            for (String flags : cells[2].split(",")) {
                Scene.done(cells[0] + "80", "CC=" + flags, "PC=0102");
                Scene.done("10" + cells[0] + "8000", "CC=" + flags, "PC=0104");
            }
        }
    }

    private static void noPostbytes() {
        Check.sentence("n: a byte that follows (what is undefined as a postbyte is none here)");
        Scene.table("""
            20 87 |             | PC=0089
            2F 87 | CC=00       | PC=0102
            2F 90 | CC=04       | PC=0092
            34 90 | S=0800 X=1234 | S=07FC [7FC]=12340102
            86 87 |             | A=87 CC=08
            C6 97 |             | B=97 CC=08
            96 8F | DP=03 [38F]=5A | A=5A
            0C 8A | DP=03       | [38A]=01
            1A 8E |             | CC=8E
            B6 87 8F | [78F]=5A | A=5A
            """);
    }

    private static void longBranches() {
        Check.sentence("21 .. 2F: as without 10, but nn for sn");
        Scene.table("""
            10 21 FF FF | CC=FF   | PC=0104
            10 26 00 00 |         | PC=0104
            10 26 7F FF |         | PC=8103
            10 26 80 00 |         | PC=8104
            10 26 FF FF |         | PC=0103
            10 26 FF FC |         | PC=0100
            10 26 00 80 |         | PC=0184
            10 26 00 10 | PC=FFFC | PC=0010
            10 26 FF FB | PC=0000 | PC=FFFF
            """);
    }

    private static void longJumps() {
        Check.sentence("16 nn: PC grows by nn.");
        Scene.table("""
            16 00 00 | CC=FF   | PC=0103
            16 00 80 |         | PC=0183
            16 7F FF |         | PC=8102
            16 80 00 |         | PC=8103
            16 FF FF |         | PC=0102
            16 00 00 | PC=FFFD | PC=0000
            16 FF FC | PC=0000 | PC=FFFF
            """);
    }

    private static void jumps() {
        Check.sentence("E: JMP: PC is the address; no flags.");
        for (String flags : "CC=00 CC=FF".split(" ")) {
            Scene.table(flags, """
                0E 00    | DP=00       | PC=0000
                0E FF    | DP=FF       | PC=FFFF
                6E 84    | X=0000      | PC=0000
                6E 84    | X=FFFF      | PC=FFFF
                6E 1F    | X=0000      | PC=FFFF
                6E 80    | X=FFFF      | PC=FFFF X=0000
                6E 8C FD |             | PC=0100
                6E 9F 0F FF | [FFF]=FF [000]=FE | PC=FFFE
                7E 10 00 |             | PC=1000
                7E FF FF |             | PC=FFFF
                """);
        }
    }

    private static void calls() {
        Check.sentence("17 nn: the same, PC pushed on S before");
        Scene.table("""
            17 00 00 | CC=FF          | S=07FE [7FE]=0103 PC=0103
            17 FF FD |                | S=07FE [7FE]=0103 PC=0100
            17 80 00 | S=0001         | S=FFFF [FFF]=01 [000]=03 PC=8103
            17 00 10 | PC=FFFE S=1000 | S=0FFE [FFE]=0001 PC=0011
            17 12 34 | S=0103         | S=0101 [101]=0103 PC=1337
            """);
        Check.sentence("8D sn and JSR push PC on S, too, then go");
        Scene.table("""
            8D 7F    | CC=FF          | S=07FE [7FE]=0102 PC=0181
            8D 80    |                | S=07FE [7FE]=0102 PC=0082
            8D FE    | PC=0000 S=0000 | S=FFFE [FFE]=0002 PC=0000
            8D 00    | PC=FFFE S=0001 | S=FFFF [FFF]=00 [000]=00 PC=0000
            8D 10    | S=0102         | S=0100 [100]=0102 PC=0112
            9D FF    | DP=FF CC=FF    | S=07FE [7FE]=0102 PC=FFFF
            AD 84    | X=FFFF         | S=07FE [7FE]=0102 PC=FFFF
            AD 64    | S=0800         | S=07FE [7FE]=0102 PC=0804
            BD FF FF | S=0001         | S=FFFF [FFF]=01 [000]=03 PC=FFFF
            BD 03 00 | S=0103         | S=0101 [101]=0103 PC=0300
            """);
        Check.sentence("39: PC pulled from S.");
        Scene.table("""
            39 | S=FFFF [FFF]=12 [000]=34 CC=FF | S=0001 PC=1234
            39 | S=FFFE [FFE]=FFFF              | S=0000 PC=FFFF
            39 | S=0FFF [FFF]=00 [000]=00       | S=1001 PC=0000
            """);
    }
}
