/** Promise 6: the operations with an operand (8x to Fx), on bytes over all pairs, and on words. */
final class OperateTest {
    private static final int C = 0x01;
    private static final int V = 0x02;
    private static final int Z = 0x04;
    private static final int N = 0x08;
    private static final int H = 0x20;
    private static final int[] BYTE_COLUMNS = {0, 1, 2, 4, 5, 6, 8, 9, 0xA, 0xB};
    private static final int[] WORDS = {
        0, 1, 2, 0x7F, 0x80, 0xFF, 0x100, 0x1234, 0x7FFE, 0x7FFF, 0x8000, 0x8001, 0xABCD, 0xFFFE,
        0xFFFF,
    };

    private static int outcome;
    private static int flags;

    public static void main(String[] args) {
        bytesImmediate();
        bytesElsewhere();
        byteStores();
        wordSums();
        wordCompares();
        wordLoadsAndStores();
        calls();
        Check.finish();
    }

    private static int flag(int cc, int bit, boolean on) {
        int without = (cc & bit) != 0 ? cc - bit : cc;
        return on ? without + bit : without;
    }

    private static int signed(int v, int size) {
        return v >= size / 2 ? v - size : v;
    }

    private static void sum(int have, int more, int carry, int size, int cc) {
        int all = have + more + carry;
        int signedAll = signed(have, size) + signed(more, size) + carry;
        outcome = all % size;
        flags = flag(cc, C, all >= size);
        flags = flag(flags, V, signedAll != signed(outcome, size));
        sign(size);
    }

    private static void difference(int have, int less, int borrow, int size, int cc) {
        int signedAll = signed(have, size) - signed(less, size) - borrow;
        outcome = Math.floorMod(have - less - borrow, size);
        flags = flag(cc, C, have < less + borrow);
        flags = flag(flags, V, signedAll != signed(outcome, size));
        sign(size);
    }

    private static void logic(int v, int size, int cc) {
        outcome = v;
        flags = flag(cc, V, false);
        sign(size);
    }

    private static void sign(int size) {
        flags = flag(flags, N, outcome >= size / 2);
        flags = flag(flags, Z, outcome == 0);
    }

    private static void reckon(int column, int have, int with, int cc) {
        int carry = cc & C;
        switch (column) {
            case 0x0:
            case 0x1:
                difference(have, with, 0, 256, cc);
                break;
            case 0x2:
                difference(have, with, carry, 256, cc);
                break;
            case 0x4:
            case 0x5:
                logic(have & with, 256, cc);
                break;
            case 0x6:
                logic(with, 256, cc);
                break;
            case 0x8:
                logic(have ^ with, 256, cc);
                break;
            case 0xA:
                logic(have | with, 256, cc);
                break;
            default:
                int in = column == 9 ? carry : 0;
                sum(have, with, in, 256, cc);
                flags = flag(flags, H, have % 16 + with % 16 + in >= 16);
                break;
        }
        if (column == 1 || column == 5) {
            outcome = have;
        }
    }

    private static void bytesImmediate() {
        Bench bench = new Bench();
        int[] ccs = {0x00, 0x01, 0xFF, 0xFE};
        for (int column : BYTE_COLUMNS) {
            for (int have = 0; have < 256; have++) {
                for (int with = 0; with < 256; with++) {
                    int cc = ccs[(have + with / 3) % 2 + ((have ^ with) & 2)];
                    oneByte(bench, column, have, with, cc);
                    oneByte(bench, column, have, with, cc ^ 1);
                }
            }
        }
    }

    private static void oneByte(Bench bench, int column, int have, int with, int cc) {
        reckon(column, have, with, cc);
        boolean onA = ((have + with + cc) & 1) == 0;
        int code = (onA ? 0x80 : 0xC0) | column;
        int answer = bench.step(code << 8 | with, 2, onA ? have : 0x21, onA ? 0x21 : have, cc);
        int got = bench.chip().reg(onA ? 0 : 1);
        int other = bench.chip().reg(onA ? 1 : 0);
        int gotFlags = bench.chip().reg(8);
        boolean right = answer == 0 && got == outcome && other == 0x21 && gotFlags == flags
            && bench.chip().reg(6) == 0x102;
        String what = right ? "" : Integer.toHexString(code) + " of " + have + " with " + with
            + " and CC " + cc + ": " + got + " and CC " + gotFlags + " for " + outcome + " and "
            + flags;
        Check.due(what, right, true);
    }

    private static void bytesElsewhere() {
        int[][] pairs = {{0x7F, 0x01}, {0x80, 0xFF}, {0x0F, 0xF1}, {0xA5, 0x5A}, {0, 0x80}};
        for (int column : BYTE_COLUMNS) {
            for (int[] pair : pairs) {
                for (int cc : new int[] {0x00, 0xFF}) {
                    reckon(column, pair[0], pair[1], cc);
                    for (int row : new int[] {0x90, 0xA0, 0xB0, 0xD0, 0xE0, 0xF0}) {
                        byteScene(row | column, pair[0], pair[1], cc);
                    }
                }
            }
        }
    }

    private static void byteScene(int code, int have, int with, int cc) {
        String[] ends = {"", "20", "A0", "0320"};
        int mode = code >> 4 & 3;
        String name = code < 0xC0 ? "A" : "B";
        String before =
            String.format("%s=%02X CC=%02X [320]=%02X DP=03 Y=0320", name, have, cc, with);
        String after = String.format("%s=%02X CC=%02X", name, outcome, flags);
        Scene.done(String.format("%02X%s", code, ends[mode]), before,
            mode == 2 ? after + " Y=0321" : after);
    }

    private static void byteStores() {
        for (int v : new int[] {0x00, 0x01, 0x7F, 0x80, 0xFF}) {
            for (int cc : new int[] {0x00, 0xFF}) {
                logic(v, 256, cc);
                for (int row : new int[] {0x90, 0xA0, 0xB0, 0xD0, 0xE0, 0xF0}) {
                    String[] ends = {"", "20", "A3", "0320"};
                    int mode = row >> 4 & 3;
                    String name = row < 0xC0 ? "A" : "B";
                    String before =
                        String.format("%s=%02X CC=%02X [320]=77 DP=03 Y=0322", name, v, cc);
                    String after = String.format("CC=%02X [320]=%02X", flags, v);
                    Scene.done(String.format("%02X%s", row | 7, ends[mode]), before,
                        mode == 2 ? after + " Y=0320" : after);
                }
            }
        }
    }

    private static void wordSums() {
        for (int have : WORDS) {
            for (int with : WORDS) {
                for (int cc : new int[] {0x00, 0xFF}) {
                    difference(have, with, 0, 65536, cc);
                    wordImmediate("83", "D", have, with, cc, outcome);
                    sum(have, with, 0, 65536, cc);
                    wordImmediate("C3", "D", have, with, cc, outcome);
                }
            }
        }
        Scene.done("93 20", "D=1234 DP=03 [320]=0235", "D=0FFF");
        Scene.done("A3 A1", "D=1234 Y=0320 [320]=1235", "D=FFFF CC=09 Y=0322");
        Scene.done("B3 03 20", "D=8000 [320]=0001", "D=7FFF CC=02");
        Scene.done("D3 20", "D=1234 DP=03 [320]=EDCC CC=20", "D=0000 CC=25");
        Scene.done("E3 A1", "D=7FFF Y=0320 [320]=0001", "D=8000 CC=0A Y=0322");
        Scene.done("F3 03 20", "D=FFFF [320]=FFFF", "D=FFFE CC=09");
    }

    private static void wordImmediate(
            String code, String name, int have, int with, int cc, int then) {
        String before = String.format("%s=%04X CC=%02X", name, have, cc);
        String after = String.format("%s=%04X CC=%02X", name, then, flags);
        quickScene(String.format("%s%04X", code, with), before, after);
    }

    /** As Scene.done, but without a look at all of memory: there are very many of these. */
    private static void quickScene(String code, String before, String after) {
        State start = new State().with("PC=0100 X=11 Y=22 U=33 S=44").with(before)
            .withBytes(0x100, code);
        TwinStackChip chip = start.build();
        Check.due(code + " with " + before, chip.step(), 0);
        start.with("PC=" + Integer.toHexString(0x100 + code.length() / 2)).with(after)
            .compareRegisters(code + " with " + before, chip);
    }

    private static void wordCompares() {
        String[][] compares = {{"8C", "X"}, {"1083", "D"}, {"108C", "Y"}, {"1183", "U"},
            {"118C", "S"}};
        for (String[] compare : compares) {
            for (int have : WORDS) {
                for (int with : WORDS) {
                    int cc = (have ^ with) % 3 == 0 ? 0xFF : 0x00;
                    difference(have, with, 0, 65536, cc);
                    wordImmediate(compare[0], compare[1], have, with, cc, have);
                }
            }
            elsewhere(compare[0], compare[1]);
        }
    }

    /** The same code in the other three ways of telling an address. */
    private static void elsewhere(String code, String name) {
        String prefix = code.substring(0, code.length() - 2);
        int last = Integer.parseInt(code.substring(code.length() - 2), 16);
        String[] ends = {"20", "1E", "0320"};
        for (int way = 0; way < 3; way++) {
            String whole = prefix + Integer.toHexString(last + 0x10 * (way + 1)) + ends[way];
            String base = name.equals("X") ? "" : " X=0322";
            String have = name.equals("X") ? "X=0322" : name + "=0322";
            Scene.done(whole, have + base + " DP=03 [320]=0322 CC=FF", "CC=F4");
            Scene.done(whole, have + base + " DP=03 [320]=8322", "CC=0B");
            Scene.done(whole, have + base + " DP=03 [320]=0323", "CC=09");
            Scene.done(whole, have + base + " DP=03 [320]=0321 CC=2F", "CC=20");
        }
    }

    private static void wordLoadsAndStores() {
        String[][] registers = {{"X", "8E", "8F"}, {"U", "CE", "CF"}, {"D", "CC", "CD"},
            {"Y", "108E", "108F"}, {"S", "10CE", "10CF"}};
        String[] ends = {"", "20", "9F0340", "0320"};
        for (String[] register : registers) {
            String armed = register[0].equals("S") ? " armed" : "";
            for (int v : WORDS) {
                for (int cc : new int[] {0x00, 0xFF}) {
                    logic(v, 65536, cc);
                    String value = String.format("%04X", v);
                    String then = String.format(" CC=%02X", flags);
                    String flagsBefore = String.format(" CC=%02X", cc);
                    quickScene(register[1] + value, flagsBefore,
                        register[0] + "=" + value + then + armed);
                    for (int way = 1; way < 4; way++) {
                        quickScene(way(register[1], way) + ends[way],
                            "DP=03 [340]=0320 [320]=" + value + flagsBefore,
                            register[0] + "=" + value + then + armed);
                    }
                }
            }
            for (int way = 1; way < 4; way++) {
                String code = way(register[2], way) + ends[way];
                String usual = " DP=03 [340]=0320 [320]=7777";
                Scene.done(code, register[0] + "=1234 CC=FF" + usual, "[320]=1234 CC=F1");
                Scene.done(code, register[0] + "=8000" + usual, "[320]=8000 CC=08");
                Scene.done(code, register[0] + "=0000 CC=0B" + usual, "[320]=0000 CC=05");
                Scene.done(code, register[0] + "=00FF CC=0E" + usual, "[320]=00FF CC=00");
            }
        }
    }

    private static String way(String code, int way) {
        int last = Integer.parseInt(code.substring(code.length() - 2), 16);
        return code.substring(0, code.length() - 2) + Integer.toHexString(last + 0x10 * way);
    }

    private static void calls() {
        Scene.done("8D 10", "CC=0F", "S=07FE [7FE]=0102 PC=0112");
        Scene.done("8D 80", "CC=F0", "S=07FE [7FE]=0102 PC=0082");
        Scene.done("8D FE", "PC=1234", "S=07FE [7FE]=1236 PC=1234");
        Scene.done("17 01 00", "CC=0F", "S=07FE [7FE]=0103 PC=0203");
        Scene.done("17 FF FD", "", "S=07FE [7FE]=0103 PC=0100");
        Scene.done("9D 20", "DP=A3 CC=FF", "S=07FE [7FE]=0102 PC=A320");
        Scene.done("AD 81", "X=A320", "S=07FE [7FE]=0102 PC=A320 X=A322");
        Scene.done("AD 9F 03 20", "[320]=ABCD", "S=07FE [7FE]=0104 PC=ABCD");
        Scene.done("BD A3 20", "", "S=07FE [7FE]=0103 PC=A320");
        Scene.done("BD A3 20", "S=0001", "S=FFFF [FFF]=01 [000]=03 PC=A320");
        Scene.done("39", "S=07FE [7FE]=ABCD CC=5A", "S=0800 PC=ABCD");
        Scene.done("39", "S=FFFF [FFF]=AB [000]=CD", "S=0001 PC=ABCD");
        Scene.done("16 01 00", "CC=0F", "PC=0203");
        Scene.done("16 FF FD", "", "PC=0100");
        Scene.done("16 FF 00", "PC=0010", "PC=FF13");
    }
}
