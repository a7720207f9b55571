import java.util.ArrayList;
import java.util.List;

/** Promise 6: pushes and pulls of every choice of registers, on both stacks. */
final class StackTest {
    private static final String ALL = "A=1A B=2B X=3C4D Y=5E6F PC=0100 DP=71 CC=C5";

    public static void main(String[] args) {
        for (int which = 0; which < 256; which++) {
            push("34", which, "S", "U");
            push("36", which, "U", "S");
            pull("35", which, "S", "U");
            pull("37", which, "U", "S");
        }
        wrapping();
        Check.finish();
    }

    /** The bytes of a push in the order of their addresses: CC lies lowest, PC highest. */
    private static String bytes(int which, String other) {
        String[] parts = {"C5", "1A", "2B", "71", "3C4D", "5E6F", other, "0102"};
        StringBuilder all = new StringBuilder();
        for (int i = 0; i < 8; i++) {
            if ((which >> i & 1) != 0) {
                all.append(parts[i]);
            }
        }
        return all.toString();
    }

    private static void push(String code, int which, String stack, String other) {
        String bytes = bytes(which, "8A9B");
        int then = 0x800 - bytes.length() / 2;
        String at = Integer.toHexString(then);
        Scene.done(String.format("%s %02X", code, which),
            ALL + " " + stack + "=0800 " + other + "=8A9B",
            stack + "=" + at + " [" + at + "]=" + bytes);
    }

    private static void pull(String code, int which, String stack, String other) {
        String[] names = {"CC", "A", "B", "DP", "X", "Y", other, "PC"};
        int[] widths = {1, 1, 1, 1, 2, 2, 2, 2};
        List<String> after = new ArrayList<>();
        StringBuilder bytes = new StringBuilder();
        int next = 0xC1;
        for (int i = 0; i < 8; i++) {
            if ((which >> i & 1) != 0) {
                StringBuilder value = new StringBuilder();
                for (int k = 0; k < widths[i]; k++) {
                    value.append(String.format("%02X", next++));
                }
                bytes.append(value);
                after.add(names[i] + "=" + value);
            }
        }
        boolean arms = other.equals("S") && (which & 0x40) != 0;
        int then = 0x300 + bytes.length() / 2;
        Scene.done(String.format("%s %02X", code, which),
            ALL + " " + stack + "=0300 " + other + "=8A9B [300]=" + bytes + "EE",
            stack + "=" + Integer.toHexString(then) + " " + String.join(" ", after)
            + (arms ? " armed" : ""));
    }

    private static void wrapping() {
        Scene.done("34 06", "A=11 B=22 S=0001", "S=FFFF [000]=22 [FFF]=11");
        Scene.done("36 10", "X=1122 U=0001", "U=FFFF [000]=22 [FFF]=11");
        Scene.done("35 06", "S=FFFF [FFF]=11 [000]=22", "S=0001 A=11 B=22");
        Scene.done("37 10", "U=FFFF [FFF]=11 [000]=22", "U=0001 X=1122");
        Scene.done("34 02", "A=11 S=F300", "S=F2FF [2FF]=11");
    }
}
