import java.util.HashSet;
import java.util.Set;

/** Which codes, postbytes and pairs of registers are defined; the others change nothing. */
final class DefinedTest {
    private static final String PLAIN =
        "00 03 04 06-0A 0C-0F 12 13 16 17 19 1A 1C-1F 20-2F 30-37 39-3D 3F"
        + " 40 43 44 46-4A 4C 4D 4F 50 53 54 56-5A 5C 5D 5F"
        + " 60 63 64 66-6A 6C-6F 70 73 74 76-7A 7C-7F"
        + " 80-86 88-8E 90-BF C0-C6 C8-CC CE D0-FF";
    private static final String AFTER_10 =
        "21-2F 3F 83 93 A3 B3 8C 9C AC BC 8E 9E AE BE 9F AF BF CE DE EE FE DF EF FF";
    private static final String AFTER_11 = "83 93 A3 B3 8C 9C AC BC 3F";
    private static final String INDEXED =
        "30-33 60 63 64 66-6A 6C-6F A0-AF E0-EF";
    private static final String FULL = "A=12 B=34 X=0356 Y=0478 U=059A S=06BC PC=0100 DP=01 CC=C0"
        + " [356]=0333 [478]=0444 [59A]=0555 [6BC]=0666";

    public static void main(String[] args) {
        codes("", PLAIN);
        codes("10", AFTER_10);
        codes("11", AFTER_11);
        postbytes();
        pairs();
        prefixes();
        Check.finish();
    }

    private static Set<Integer> parse(String ranges) {
        Set<Integer> all = new HashSet<>();
        for (String range : ranges.split(" ")) {
            int first = Integer.parseInt(range.substring(0, 2), 16);
            int last = Integer.parseInt(range.substring(range.length() - 2), 16);
            for (int i = first; i <= last; i++) {
                all.add(i);
            }
        }
        return all;
    }

    private static void judge(String code, boolean defined) {
        State before = new State().with(FULL).withBytes(0x100, code);
        TwinStackChip chip = before.build();
        Check.due(code + " is undefined", chip.step() == 2, !defined);
        if (!defined) {
            before.compareAll(code, before, 1);
        }
    }

    private static void codes(String prefix, String defined) {
        Set<Integer> set = parse(defined);
        for (int code = 0; code < 256; code++) {
            boolean another = prefix.isEmpty() && (code == 0x10 || code == 0x11);
            if (!another) {
                // 00 is a postbyte and a pair that is defined; 80, ,X+, must not grow X.
                judge(prefix + Hex.two(code) + "000000", set.contains(code));
                if (!set.contains(code)) {
                    judge(prefix + Hex.two(code) + "800000", false);
                }
            }
        }
    }

    private static void postbytes() {
        for (int postbyte = 0; postbyte < 256; postbyte++) {
            boolean defined = isDefined(postbyte);
            for (int code : parse(INDEXED)) {
                judgeQuickly(Hex.two(code) + Hex.two(postbyte) + "0000", defined);
            }
            for (String code : "10A3 10AC 10AE 10AF 10EE 10EF 11A3 11AC".split(" ")) {
                judgeQuickly(code + Hex.two(postbyte) + "0000", defined);
            }
        }
        for (String code : "A690 A692 A687 A68A A68E A68F A6BF A6DF A6FF 6E97 ED9A 10EE9E 3292"
            .split(" ")) {
            judge(code + "0200", false);
        }
        judge("A69F0200", true);
    }

    private static void judgeQuickly(String code, boolean defined) {
        State before = new State().with(FULL).withBytes(0x100, code);
        TwinStackChip chip = before.build();
        Check.due(code + " is undefined", chip.step() == 2, !defined);
        if (!defined) {
            before.compareRegisters(code, chip);
        }
    }

    private static boolean isDefined(int postbyte) {
        String plain = "0123456 89 BCD";
        String indirect = " 1 3456 89 BCD";
        if (postbyte < 0x80 || postbyte == 0x9F) {
            return true;
        }
        String kinds = (postbyte & 0x10) != 0 ? indirect : plain;
        return kinds.indexOf("0123456789ABCDEF".charAt(postbyte & 15)) >= 0;
    }

    private static void pairs() {
        String words = "012345";
        String bytes = "89AB";
        for (int pair = 0; pair < 256; pair++) {
            String first = Hex.two(pair).substring(0, 1);
            String second = Hex.two(pair).substring(1);
            boolean defined = words.contains(first) && words.contains(second)
                || bytes.contains(first) && bytes.contains(second);
            judge("1E" + Hex.two(pair), defined);
            judge("1F" + Hex.two(pair), defined);
        }
    }

    private static void prefixes() {
        for (String code : "1010 1011 1110 1111 101010A3 1112 1013 10201234 112112".split(" ")) {
            judge(code, false);
        }
    }
}
