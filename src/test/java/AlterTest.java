/** Promise 6: the operations on one byte (0x, 4x, 5x, 6x, 7x), over all bytes. */
final class AlterTest {
    private static final int C = 1;
    private static final int V = 2;
    private static final int Z = 4;
    private static final int N = 8;
    private static final int[] COLUMNS = {0, 3, 4, 6, 7, 8, 9, 0xA, 0xC, 0xD, 0xF};
    private static final int[] FLAGS = {0x00, 0xFF, 0x01, 0xFE, 0x5A};

    private static int outcome;
    private static int flags;

    public static void main(String[] args) {
        Bench bench = new Bench();
        for (int column : COLUMNS) {
            for (int v = 0; v < 256; v++) {
                for (int cc : FLAGS) {
                    reckon(column, v, cc);
                    onAccumulators(bench, column, v, cc);
                    onMemory(bench, column, v, cc);
                }
            }
        }
        scenes();
        jumps();
        Check.finish();
    }

    /** Reckoned with texts of bits, another way than the program's. */
    private static void reckon(int column, int v, int cc) {
        String bits = Integer.toBinaryString(256 + v).substring(1);
        String carry = (cc & C) != 0 ? "1" : "0";
        String first = bits.substring(0, 1);
        String last = bits.substring(7);
        flags = cc;
        switch (column) {
            case 0x0:
                outcome = (256 - v) % 256;
                flag(V, v == 128);
                flag(C, v != 0);
                break;
            case 0x3:
                outcome = 255 - v;
                flag(V, false);
                flag(C, true);
                break;
            case 0x4:
                down("0", bits, last);
                break;
            case 0x6:
                down(carry, bits, last);
                break;
            case 0x7:
                down(first, bits, last);
                break;
            case 0x8:
                up(bits, "0");
                break;
            case 0x9:
                up(bits, carry);
                break;
            case 0xA:
                outcome = v == 0 ? 255 : v - 1;
                flag(V, v == 128);
                break;
            case 0xC:
                outcome = v == 255 ? 0 : v + 1;
                flag(V, v == 127);
                break;
            case 0xD:
                outcome = v;
                flag(V, false);
                break;
            default:
                outcome = 0;
                flag(V, false);
                flag(C, false);
                break;
        }
        flag(N, outcome > 127);
        flag(Z, outcome == 0);
    }

    private static void flag(int bit, boolean on) {
        flags = flags / bit % 2 == 1 ? flags - bit : flags;
        flags = on ? flags + bit : flags;
    }

    private static void down(String top, String bits, String out) {
        outcome = Integer.parseInt(top + bits.substring(0, 7), 2);
        flag(C, out.equals("1"));
    }

    private static void up(String bits, String below) {
        outcome = Integer.parseInt(bits.substring(1) + below, 2);
        flag(C, bits.charAt(0) == '1');
        flag(V, bits.charAt(0) != bits.charAt(1));
    }

    private static void onAccumulators(Bench bench, int column, int v, int cc) {
        String what = Integer.toHexString(column) + " on " + v + " with CC " + cc;
        Check.due(what, bench.step(0x40 | column, 1, v, 0x33, cc), 0);
        Check.due(what + ", A", bench.chip().reg(0), outcome);
        Check.due(what + ", B", bench.chip().reg(1), 0x33);
        Check.due(what + ", CC", bench.chip().reg(8), flags);
        Check.due(what, bench.step(0x50 | column, 1, 0x44, v, cc), 0);
        Check.due(what + ", A", bench.chip().reg(0), 0x44);
        Check.due(what + ", B", bench.chip().reg(1), outcome);
        Check.due(what + ", CC", bench.chip().reg(8), flags);
    }

    private static void onMemory(Bench bench, int column, int v, int cc) {
        String what = Integer.toHexString(column) + " on " + v + " with CC " + cc;
        // 70: extended; the fourth byte loaded is the operand itself.
        int code = (0x70 | column) << 24 | 0x0103 << 8 | v;
        Check.due(what, bench.step(code, 4, 0x44, 0x33, cc), 0);
        Check.due(what + ", the byte", bench.chip().peek(0x103), outcome);
        Check.due(what + ", CC", bench.chip().reg(8), flags);
        Check.due(what + ", PC", bench.chip().reg(6), 0x103);
        Check.due(what + ", A", bench.chip().reg(0), 0x44);
        Check.due(what + ", B", bench.chip().reg(1), 0x33);
    }

    private static void scenes() {
        Scene.done("00 20", "DP=03 [320]=01", "[320]=FF CC=09");
        Scene.done("60 84", "X=0320 [320]=80", "[320]=80 CC=0B");
        Scene.done("70 03 20", "[320]=00", "CC=04");
        Scene.done("03 20", "DP=03 [320]=0F", "[320]=F0 CC=09");
        Scene.done("63 80", "X=0320 [320]=FF CC=02", "[320]=00 CC=05 X=0321");
        Scene.done("04 20", "DP=03 [320]=01 CC=0A", "[320]=00 CC=07");
        Scene.done("66 A2", "Y=0321 [320]=01 CC=01", "[320]=80 CC=09 Y=0320");
        Scene.done("77 03 20", "[320]=81 CC=00", "[320]=C0 CC=09");
        Scene.done("08 20", "DP=03 [320]=40", "[320]=80 CC=0A");
        Scene.done("69 C4", "U=0320 [320]=80 CC=01", "[320]=01 CC=03");
        Scene.done("7A 03 20", "[320]=80", "[320]=7F CC=02");
        Scene.done("0A 20", "DP=03 [320]=00 CC=01", "[320]=FF CC=09");
        Scene.done("6C E4", "S=0320 [320]=7F", "[320]=80 CC=0A");
        Scene.done("7C 03 20", "[320]=FF", "[320]=00 CC=04");
        Scene.done("0D 20", "DP=03 [320]=80 CC=03", "CC=09");
        Scene.done("6D 81", "X=0320 [320]=00 CC=0B", "CC=05 X=0322");
        Scene.done("7F 03 20", "[320]=55 CC=0B", "[320]=00 CC=04");
        Scene.done("6F 9F 03 00", "[300]=0320 [320]=55 CC=FB", "[320]=00 CC=F4");
        Scene.done("7C 13 20", "[320]=01", "[320]=02");
    }

    private static void jumps() {
        Scene.done("0E 20", "DP=03 CC=0F", "PC=0320");
        Scene.done("0E 20", "DP=F3 CC=0F", "PC=F320");
        Scene.done("6E 84", "X=4320 CC=0F", "PC=4320");
        Scene.done("6E 81", "X=4320", "PC=4320 X=4322");
        Scene.done("6E 94", "X=0320 [320]=ABCD", "PC=ABCD");
        Scene.done("6E 8C FD", "", "PC=0100");
        Scene.done("7E F3 20", "", "PC=F320");
    }
}
