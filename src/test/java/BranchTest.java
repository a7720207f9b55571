/** Promise 6: the branches, short and long, under all flags. */
final class BranchTest {
    public static void main(String[] args) {
        for (int condition = 0; condition < 16; condition++) {
            for (int flags = 0; flags < 16; flags++) {
                branch(condition, flags, 0);
                branch(condition, flags, 0xF0);
            }
        }
        edges();
        Check.finish();
    }

    private static boolean goes(int condition, boolean c, boolean v, boolean z, boolean n) {
        switch (condition) {
            case 0x0:
                return true;
            case 0x1:
                return false;
            case 0x2:
                return !(c || z);
            case 0x3:
                return c || z;
            case 0x4:
                return !c;
            case 0x5:
                return c;
            case 0x6:
                return !z;
            case 0x7:
                return z;
            case 0x8:
                return !v;
            case 0x9:
                return v;
            case 0xA:
                return !n;
            case 0xB:
                return n;
            case 0xC:
                return n == v;
            case 0xD:
                return n != v;
            case 0xE:
                return !z && n == v;
            default:
                return z || n != v;
        }
    }

    private static void branch(int condition, int flags, int rest) {
        boolean goes = goes(condition, (flags & 1) != 0, (flags & 2) != 0, (flags & 4) != 0,
            (flags & 8) != 0);
        String before = String.format("PC=0100 CC=%02X", flags | rest);
        String code = String.format("2%X", condition);
        check(code + "25", before, goes ? 0x127 : 0x102);
        check(code + "F0", before, goes ? 0x0F2 : 0x102);
        if (condition != 0) {
            check("10" + code + "1234", before, goes ? 0x1338 : 0x104);
            check("10" + code + "FFF0", before, goes ? 0x0F4 : 0x104);
        }
    }

    private static void check(String code, String before, int pc) {
        State start = new State().with(before).withBytes(0x100, code);
        TwinStackChip chip = start.build();
        Check.due(code + " with " + before, chip.step(), 0);
        start.with("PC=" + Hex.four(pc)).compareRegisters(code + " with " + before, chip);
    }

    private static void edges() {
        Scene.done("20 7F", "", "PC=0181");
        Scene.done("20 80", "", "PC=0082");
        Scene.done("20 FE", "", "PC=0100");
        Scene.done("20 F0", "PC=0000", "PC=FFF2");
        Scene.done("20 10", "PC=FFF8", "PC=000A");
        Scene.done("21 80", "", "PC=0102");
        Scene.done("10 21 80 00", "", "PC=0104");
        Scene.done("10 26 80 00", "", "PC=8104");
        Scene.done("10 26 7F FF", "", "PC=8103");
        Scene.undefined("10 20 12 34", "");
    }
}
