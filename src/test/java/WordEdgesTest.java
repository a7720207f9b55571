/** Terms: the operations on words, and those that stand alone, at the edges of their outcomes. */
final class WordEdgesTest {
    private static final String DIFFERENCES =
        "0000-0001:00>FFFF:09  0000-0000:0B>0000:04  8000-0001:05>7FFF:02  7FFF-FFFF:04>8000:0B"
        + "  0000-8000:00>8000:0B  8000-8000:0B>0000:04  FFFF-0001:27>FFFE:28  0001-FFFF:2E>0002:21"
        + "  0100-0001:01>00FF:00  0080-0000:01>0080:00  8000-0000:07>8000:08"
        + "  FFFF-FFFF:03>0000:04";
    private static final String SUMS =
        "FFFF-0001:00>0000:05  7FFF-0001:05>8000:0A  8000-8000:00>0000:07  8000-FFFF:24>7FFF:23"
        + "  0000-0000:0B>0000:04  00FF-0001:01>0100:00  FFFF-FFFF:00>FFFE:09  0FFF-0001:01>1000:00"
        + "  7FFF-8000:07>FFFF:08  0008-0008:00>0010:00";
    private static final String LOADS =
        "0000:0B>05 8000:26>28 7FFF:0E>00 FFFF:07>09 00FF:2E>20 0080:0F>01 0100:24>20 8080:03>09";

    public static void main(String[] args) {
        sums();
        compares();
        loadsAndStores();
        decimal();
        flagsByByte();
        extend();
        changePlaces();
        loadAddress();
        addB();
        multiply();
        Check.finish();
    }

    private static void sums() {
        Check.sentence("3: with 8 .. B SUB of a word from D: N, Z, V, C.");
        operates("83", "D", DIFFERENCES, false);
        Check.sentence("3: with C .. F ADD of a word to D: N, Z, V, C.");
        operates("C3", "D", SUMS, false);
    }

    private static void compares() {
        Check.sentence("C: with 8 .. B CMP of X with a word (N, Z, V, C)");
        operates("8C", "X", DIFFERENCES, true);
        Check.sentence("After the byte 10: 83 CMP of D; 8C CMP of Y. After 11: 83 CMP of U; 8C CMP"
            + " of S.");
        operates("1083", "D", DIFFERENCES, true);
        operates("108C", "Y", DIFFERENCES, true);
        operates("1183", "U", DIFFERENCES, true);
        operates("118C", "S", DIFFERENCES, true);
    }

    private static void loadsAndStores() {
        Check.sentence("LD and ST of words: N, Z, V 0.");
        String[][] registers = {{"X", "8E", "8F"}, {"U", "CE", "CF"}, {"D", "CC", "CD"},
            {"Y", "108E", "108F"}, {"S", "10CE", "10CF"}};
        for (String[] register : registers) {
            for (String row : LOADS.split(" ")) {
                loadAndStore(register, row);
            }
        }
    }

    private static void loadAndStore(String[] register, String row) {
        String v = row.substring(0, 4);
        String flags = " CC=" + row.substring(5, 7);
        String then = " CC=" + row.substring(8);
        String loaded = register[0] + "=" + v + then + (register[0].equals("S") ? " armed" : "");
        String filled = " [FFF]=" + v.substring(0, 2) + " [000]=" + v.substring(2);
        String have = register[0] + "=" + v + flags;
        Scene.done(register[1] + v, flags, loaded);
        for (int way = 1; way < 4; way++) {
            String rest = wayRest(way, register[0]);
            String base = wayBase(way, register[0]);
            Scene.done(way(register[1], way) + rest, flags + filled + base, loaded);
            Scene.done(way(register[2], way) + rest, have + base, then + filled);
        }
    }

    // The ways 1 .. 3 (direct, indexed, extended) all tell the address FFFF here.

    private static String way(String code, int way) {
        int last = Hex.parse(code.substring(code.length() - 2));
        return code.substring(0, code.length() - 2) + Hex.two(last + 0x10 * way);
    }

    private static String wayRest(int way, String register) {
        String postbyte = register.equals("X") ? "A4" : "84";
        return way == 1 ? "FF" : way == 2 ? postbyte : "FFFF";
    }

    private static String wayBase(int way, String register) {
        String base = register.equals("X") ? " Y=FFFF" : " X=FFFF";
        return way == 1 ? " DP=FF" : way == 2 ? base : "";
    }

    /** Rows "register-operand:CC>outcome:CC"; the first code is the immediate one. */
    private static void operates(String code, String name, String rows, boolean keeps) {
        for (String row : rows.split("  ")) {
            for (int rest : new int[] {0x00, 0xD0}) {
                String with = row.substring(5, 9);
                String have = name + "=" + row.substring(0, 4);
                String flags = " CC=" + Hex.two(Hex.parse(row.substring(10, 12)) | rest);
                String then = " CC=" + Hex.two(Hex.parse(row.substring(18)) | rest);
                String after = keeps ? then : name + "=" + row.substring(13, 17) + then;
                String filled = " [FFF]=" + with.substring(0, 2) + " [000]=" + with.substring(2);
                Scene.done(code + with, have + flags, after);
                for (int way = 1; way < 4; way++) {
                    Scene.done(way(code, way) + wayRest(way, name),
                        have + flags + filled + wayBase(way, name), after);
                }
            }
        }
    }

    private static void decimal() {
        Check.sentence("A grows by 6 if H, or its lower half is more than 9");
        Scene.table("""
            19 | A=09 CC=00 | A=09 CC=00
            19 | A=0A CC=00 | A=10 CC=00
            19 | A=0F CC=00 | A=15 CC=00
            19 | A=00 CC=20 | A=06 CC=20
            19 | A=0A CC=20 | A=10 CC=20
            19 | A=89 CC=00 | A=89 CC=08
            """);
        Check.sentence("and by 60 if C, or its upper half is more than 9,"
            + " or is more than 8 with the lower half more than 9");
        Scene.table("""
            19 | A=99 CC=00 | A=99 CC=08
            19 | A=9A CC=00 | A=00 CC=05
            19 | A=8A CC=00 | A=90 CC=08
            19 | A=8F CC=00 | A=95 CC=08
            19 | A=90 CC=00 | A=90 CC=08
            19 | A=A0 CC=00 | A=00 CC=05
            19 | A=9F CC=00 | A=05 CC=01
            19 | A=F9 CC=00 | A=59 CC=01
            19 | A=00 CC=01 | A=60 CC=01
            19 | A=09 CC=01 | A=69 CC=01
            19 | A=93 CC=20 | A=99 CC=28
            """);
        Check.sentence("C is 1 if it was, or the sum has no room; N, Z; V stays");
        Scene.table("""
            19 | A=00 CC=00 | A=00 CC=04
            19 | A=00 CC=0A | A=00 CC=06
            19 | A=20 CC=03 | A=80 CC=0B
            19 | A=FF CC=21 | A=65 CC=21
            19 | A=FF CC=DE | A=65 CC=D3
            19 | A=9A CC=21 | A=00 CC=25
            19 | A=9B CC=00 | A=01 CC=01
            19 | A=74 CC=20 | A=7A CC=20
            19 | A=7A CC=00 | A=80 CC=08
            """);
    }

    private static void flagsByByte() {
        Check.sentence("1A n: CC or n. 1C n: CC and n.");
        Scene.table("""
            1A 00 | CC=5A | CC=5A
            1A FF | CC=00 | CC=FF
            1A 80 | CC=01 | CC=81
            1C 00 | CC=FF | CC=00
            1C FF | CC=5A | CC=5A
            1C 7F | CC=FF | CC=7F
            1C 80 | CC=7F | CC=00
            """);
    }

    private static void extend() {
        Check.sentence("A is FF if bit 7 of B is on, else 0; N, Z by D, V 0.");
        Scene.table("""
            1D | D=5500 CC=0B | D=0000 CC=05
            1D | D=FF7F CC=0E | D=007F CC=00
            1D | D=0080 CC=06 | D=FF80 CC=08
            1D | D=12FF CC=F7 | D=FFFF CC=F9
            1D | D=8001 CC=FE | D=0001 CC=F0
            """);
    }

    private static void changePlaces() {
        Check.sentence("1E: they change places; 1F: the second one becomes the first.");
        Scene.table("A=12 B=34 X=FFFF Y=0000 DP=77 CC=FF", """
            1E 12 |  | X=0000 Y=FFFF
            1E 11 |  |
            1E 00 |  |
            1E 01 |  | D=FFFF X=1234
            1E 33 |  |
            1E 32 |  | U=0000 Y=0900
            1E 15 |  | X=0102 PC=FFFF
            1E 51 |  | X=0102 PC=FFFF
            1E 55 |  |
            1E 89 |  | A=34 B=12
            1E 8A |  | A=FF CC=12
            1E AB |  | CC=77 DP=FF
            1E AA |  |
            1F 12 |  | Y=FFFF
            1F 21 |  | X=0000
            1F 10 |  | D=FFFF
            1F 13 |  | U=FFFF
            1F 31 |  | X=0900
            1F 15 |  | PC=FFFF
            1F 51 |  | X=0102
            1F 55 |  |
            1F 8A |  | CC=12
            1F A8 |  | A=FF
            1F 9B |  | DP=34
            1F BB |  |
            """);
    }

    private static void loadAddress() {
        Check.sentence("30, 31, 32, 33 with a postbyte: Z by it for X and Y, else no flags.");
        Scene.table("""
            30 1F       | X=0001 CC=0B | X=0000 CC=0F
            30 01       | X=FFFF CC=00 | X=0000 CC=04
            30 84       | X=1000 CC=04 | X=1000 CC=00
            30 84       | X=8000 CC=FF | X=8000 CC=FB
            31 89 80 00 | X=8000 CC=00 | Y=0000 CC=04
            31 84       | X=0100 CC=0F | Y=0100 CC=0B
            32 84       | X=0000 CC=00 | S=0000 armed
            32 84       | X=8000 CC=04 | S=8000 armed
            33 84       | X=0000 CC=00 | U=0000
            33 84       | X=0001 CC=FF | U=0001
            """);
    }

    private static void addB() {
        Check.sentence("3A: X grows by B (0 .. FF).");
        Scene.table("""
            3A | X=1234 B=00 CC=FF | X=1234
            3A | X=1234 B=7F CC=00 | X=12B3
            3A | X=1234 B=80 CC=00 | X=12B4
            3A | X=1201 B=FF A=77  | X=1300
            3A | X=FFFF B=01 CC=00 | X=0000
            3A | X=FFFF B=FF CC=00 | X=00FE
            3A | X=0000 B=00 CC=00 | X=0000
            """);
    }

    private static void multiply() {
        Check.sentence("3D: D is A * B; Z by D, C is bit 7 of B then.");
        Scene.table("""
            3D | A=00 B=FF CC=0B | D=0000 CC=0E
            3D | A=FF B=00 CC=00 | D=0000 CC=04
            3D | A=FF B=FF CC=05 | D=FE01 CC=00
            3D | A=01 B=80 CC=04 | D=0080 CC=01
            3D | A=80 B=01 CC=0A | D=0080 CC=0B
            3D | A=01 B=7F CC=01 | D=007F CC=00
            3D | A=10 B=10 CC=05 | D=0100 CC=00
            3D | A=80 B=80 CC=FF | D=4000 CC=FA
            3D | A=0C B=15 CC=00 | D=00FC CC=01
            """);
    }
}
