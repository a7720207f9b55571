/**
 * Terms: the operations on bytes, at the edges of their outcomes and flags. Each row is done on
 * both accumulators and in every way of telling an address, without and with the flags that it has
 * no part in.
 */
final class ByteEdgesTest {
    public static void main(String[] args) {
        negAndCom();
        shiftsDown();
        shiftsUp();
        counts();
        testAndClear();
        subtractions();
        additions();
        logic();
        stores();
        keeping();
        Check.finish();
    }

    private static void negAndCom() {
        Check.sentence("0 NEG: 0 less it, as SUB.");
        alters("0", "00:00>00:04  00:0F>00:04  80:00>80:0B  80:04>80:0B  01:00>FF:09  FF:0E>01:01"
            + "  7F:06>81:09  81:08>7F:01");
        Check.sentence("3 COM: all bits turned over; V 0, C 1.");
        alters("3", "00:00>FF:09  00:07>FF:09  FF:02>00:05  FF:08>00:05  7F:06>80:09  80:0F>7F:01"
            + "  55:00>AA:09  AA:0E>55:01");
    }

    private static void shiftsDown() {
        Check.sentence("4 LSR: a bit down, 0 on top; C the bit that went out.");
        alters("4", "00:00>00:04  00:03>00:06  01:00>00:05  01:0A>00:07  FF:0D>7F:01  80:0B>40:02"
            + "  80:01>40:00");
        Check.sentence("6 ROR: a bit down, C on top; C likewise.");
        alters("6", "00:00>00:04  00:01>80:08  01:00>00:05  01:01>80:09  01:02>00:07  FE:05>FF:08"
            + "  FF:0A>7F:03  FF:0F>FF:0B");
        Check.sentence("7 ASR: a bit down, bit 7 stays; C likewise.");
        alters("7", "00:00>00:04  00:0B>00:06  01:00>00:05  80:00>C0:08  80:07>C0:0A  81:04>C0:09"
            + "  7F:08>3F:01  FF:00>FF:09  7E:09>3F:00");
    }

    private static void shiftsUp() {
        Check.sentence("8 ASL: a bit up, 0 below; C the bit that went out,"
            + " V bit 7 xor bit 6 before.");
        alters("8", "00:00>00:04  00:0B>00:04  80:00>00:07  80:08>00:07  40:05>80:0A  C0:06>80:09"
            + "  3F:0F>7E:00  7F:01>FE:0A  FF:00>FE:09  BF:00>7E:03");
        Check.sentence("9 ROL: a bit up, C below; C, V likewise.");
        alters("9", "00:00>00:04  00:01>01:00  80:00>00:07  80:01>01:03  40:01>81:0A  40:06>80:0A"
            + "  C0:01>81:09  FF:01>FF:09  FF:00>FE:09  7F:0D>FF:0A  BF:01>7F:03");
    }

    private static void counts() {
        Check.sentence("A DEC: less by 1; V if it was 80.");
        alters("A", "80:00>7F:02  80:0D>7F:03  81:02>80:08  7F:02>7E:00  00:00>FF:08  00:07>FF:09"
            + "  01:01>00:05  01:02>00:04  FF:06>FE:08");
        Check.sentence("C INC: more by 1; V if it was 7F.");
        alters("C", "7F:00>80:0A  7F:05>80:0B  80:02>81:08  7E:02>7F:00  FF:00>00:04  FF:0B>00:05"
            + "  00:04>01:00  00:0F>01:01  FE:06>FF:08");
    }

    private static void testAndClear() {
        Check.sentence("D TST: V 0, nothing else but flags.");
        alters("D", "00:00>00:04  00:0B>00:05  80:06>80:08  80:07>80:09  7F:0E>7F:00  FF:00>FF:08"
            + "  01:0F>01:01");
        Check.sentence("F CLR: 0; V, C 0.");
        alters("F", "00:00>00:04  FF:0B>00:04  80:0F>00:04  7F:01>00:04  01:02>00:04");
    }

    private static void subtractions() {
        Check.sentence("0 SUB: N, Z, V (signed overflow), C (borrow or carry)");
        operates("0", "00-01:00>FF:09  00-00:0B>00:04  80-01:05>7F:02  7F-FF:04>80:0B"
            + "  00-80:00>80:0B  80-80:0B>00:04  FF-01:07>FE:08  01-FF:0E>02:01  80-7F:01>01:02"
            + "  FF-FF:01>00:04  7F-7F:0B>00:04  00-FF:0E>01:01  80-FF:02>81:09"
            + "  FF-80:0F>7F:00");
        Check.sentence("1 CMP: N, Z, V, C; CMP keeps the register.");
        operates("1", "00-01:00>00:09  00-00:0B>00:04  80-01:05>80:02  7F-FF:04>7F:0B"
            + "  00-80:00>00:0B  80-80:0B>80:04  FF-FF:01>FF:04  01-FF:0E>01:01");
        Check.sentence("2 SBC (less C)");
        operates("2", "00-00:00>00:04  00-00:01>FF:09  00-FF:01>00:05  00-FF:00>01:01"
            + "  80-00:01>7F:02  80-00:02>80:08  7F-FF:01>7F:01  7F-FF:00>80:0B  80-7F:01>00:06"
            + "  FF-FF:01>FF:09  01-00:0B>00:04  81-01:01>7F:02  00-7F:01>80:09");
    }

    private static void additions() {
        Check.sentence("B ADD: N, Z, V, C; H: the carry out of bit 3.");
        operates("B", "7F-01:00>80:2A  FF-01:00>00:25  80-80:00>00:07  80-FF:20>7F:03"
            + "  0F-01:01>10:20  08-08:0F>10:20  07-08:20>0F:00  F0-0F:24>FF:08  00-00:2B>00:04"
            + "  FF-FF:00>FE:29  F0-10:20>00:05  70-10:21>80:0A  7F-7F:00>FE:2A");
        Check.sentence("9 ADC (and C); ADC sets H.");
        operates("9", "FF-00:01>00:25  FF-00:00>FF:08  7F-00:01>80:2A  0F-00:01>10:20"
            + "  0F-00:20>0F:00  FF-FF:01>FF:29  80-7F:01>00:25  00-00:01>01:00  00-00:20>00:04"
            + "  80-80:01>01:03  07-08:01>10:20  7F-80:00>FF:08  EF-10:21>00:25");
    }

    private static void logic() {
        Check.sentence("4 AND, 8 EOR, A OR, 6 LD: N, Z, V 0.");
        operates("4", "F0-0F:00>00:04  F0-0F:2B>00:25  FF-80:26>80:28  FF-7F:0E>7F:00"
            + "  00-FF:02>00:04  FF-FF:23>FF:29");
        operates("8", "FF-FF:0B>00:05  7F-FF:22>80:28  80-FF:0E>7F:00  00-00:00>00:04"
            + "  00-80:07>80:09");
        operates("A", "00-00:0B>00:05  00-80:26>80:28  7F-00:0E>7F:00  0F-F0:03>FF:09"
            + "  FF-FF:04>FF:08");
        operates("6", "12-00:0B>00:05  12-80:26>80:28  FF-7F:0E>7F:00  00-FF:07>FF:09"
            + "  00-01:24>01:20");
        Check.sentence("5 BIT (keeps it)");
        operates("5", "F0-0F:00>F0:04  F0-0F:2B>F0:25  FF-80:26>FF:28  80-7F:08>80:04"
            + "  7F-7F:0F>7F:01");
    }

    private static void stores() {
        Check.sentence("7 ST: N, Z, V 0.");
        for (String accumulator : new String[] {"9A", "DB"}) {
            int row = Hex.parse(accumulator.substring(0, 1)) << 4;
            String name = accumulator.substring(1);
            for (String cells : "00:0B>05 80:26>28 7F:0E>00 FF:07>09 01:24>20".split(" ")) {
                String v = cells.substring(0, 2);
                String before = name + "=" + v + " CC=" + cells.substring(3, 5);
                String after = " CC=" + cells.substring(6) + " [FFF]=" + v;
                Scene.done(Hex.two(row | 7) + "FF", before + " DP=0F", after);
                Scene.done(Hex.two(row + 0x17) + "84", before + " X=FFFF", after);
                Scene.done(Hex.two(row + 0x27) + "FFFF", before, after);
            }
        }
    }

    private static void keeping() {
        Check.sentence("ADD and ADC set H");
        String flags = "A=12 B=34 CC=F0";
        Scene.table(flags, """
            80 01 |  | A=11 CC=F0
            82 01 |  | A=11 CC=F0
            81 01 |  | CC=F0
            40    |  | A=EE CC=F9
            48    |  | A=24 CC=F0
            8B 01 |  | A=13 CC=D0
            89 01 |  | A=13 CC=D0
            CB 01 |  | B=35 CC=D0
            C9 01 |  | B=35 CC=D0
            C3 00 01 |  | D=1235 CC=F0
            """);
        Scene.table("A=08 CC=50", """
            80 09 |  | A=FF CC=59
            C3 08 08 |  | A=10 B=08 CC=50
            48    |  | A=10 CC=50
            8B 08 |  | A=10 CC=70
            """);
    }

    /** Rows "byte:CC>outcome:CC" of a column of 0x, 4x, 5x, 6x and 7x. */
    private static void alters(String column, String rows) {
        for (String row : rows.split("  ")) {
            for (int rest : new int[] {0x00, 0xF0}) {
                String have = row.substring(0, 2);
                String then = row.substring(6, 8);
                String before = " CC=" + Hex.two(Hex.parse(row.substring(3, 5)) | rest);
                String after = " CC=" + Hex.two(Hex.parse(row.substring(9)) | rest);
                Scene.done("4" + column, "B=77 A=" + have + before, "A=" + then + after);
                Scene.done("5" + column, "A=77 B=" + have + before, "B=" + then + after);
                String there = "[FFF]=" + have + before;
                after += " [FFF]=" + then;
                Scene.done("0" + column + "FF", there + " DP=0F", after);
                Scene.done("6" + column + "84", there + " X=FFFF", after);
                Scene.done("7" + column + "FFFF", there, after);
            }
        }
    }

    /** Rows "register-operand:CC>register:CC" of a column of 8x to Fx. */
    private static void operates(String column, String rows) {
        for (String row : rows.split("  ")) {
            for (int rest : new int[] {0x00, 0xD0}) {
                String with = row.substring(3, 5);
                String before = " CC=" + Hex.two(Hex.parse(row.substring(6, 8)) | rest);
                String after = " CC=" + Hex.two(Hex.parse(row.substring(12)) | rest);
                String there = before + " [FFF]=" + with;
                for (String name : new String[] {"A", "B"}) {
                    String have = name + "=" + row.substring(0, 2);
                    String then = name + "=" + row.substring(9, 11) + after;
                    String codes = name.equals("A") ? "89AB" : "CDEF";
                    Scene.done(codes.charAt(0) + column + with, have + before, then);
                    Scene.done(codes.charAt(1) + column + "FF", have + there + " DP=0F", then);
                    Scene.done(codes.charAt(2) + column + "84", have + there + " X=FFFF", then);
                    Scene.done(codes.charAt(3) + column + "FFFF", have + there, then);
                }
            }
        }
    }
}
