/** Terms: the ways of telling an address, at their edges; LEA of U shows one without flags. */
final class AddressEdgesTest {
    private static final String[] BASES = {"X", "Y", "U", "S"};

    public static void main(String[] args) {
        direct();
        extended();
        smallOffsets();
        growing();
        shrinking();
        accumulatorOffsets();
        readOffsets();
        relativeToPc();
        indirect();
        addressFirst();
        Check.finish();
    }

    private static void direct() {
        Check.sentence("DIRECT: the address 100 * DP + n");
        Scene.table("""
            96 00    | DP=00 [000]=5A | A=5A
            96 FF    | DP=00 [0FF]=5A | A=5A
            96 FF    | DP=FF [FFF]=5A | A=5A
            96 00    | DP=10 [000]=5A | A=5A
            9E FF    | DP=02 [2FF]=1234 [200]=56 | X=1234
            9E FF    | DP=0F [FFF]=12 [000]=34 | X=1234
            9F FF    | DP=FF X=1234 | [FFF]=12 [000]=34
            0E FF    | DP=FF | PC=FFFF
            0E 00    | DP=00 | PC=0000
            """);
    }

    private static void extended() {
        Check.sentence("EXTENDED: the address nn");
        Scene.table("""
            B6 00 00 | [000]=5A DP=05 | A=5A
            B6 0F FF | [FFF]=5A DP=05 | A=5A
            B6 10 00 | [000]=5A DP=05 | A=5A
            B6 FF FF | [FFF]=5A DP=05 | A=5A
            7E FF FF |                | PC=FFFF
            7E 00 00 |                | PC=0000
            """);
    }

    private static void smallOffsets() {
        Check.sentence("With bit 7 off: the address is R + bits 4 .. 0, signed");
        for (int postbyte = 0; postbyte < 0x80; postbyte++) {
            int bits = postbyte & 0x1F;
            int offset = bits < 16 ? bits : bits - 32;
            for (int base : new int[] {0x0300, 0x0000, 0xFFFF}) {
                Scene.done("33" + Hex.two(postbyte), BASES[postbyte >> 5] + "=" + Hex.four(base),
                    "U=" + Hex.four(base + offset));
            }
        }
        Scene.table("""
            A6 10 | X=0300 [2F0]=5A | A=5A
            A6 0F | X=0300 [30F]=5A | A=5A
            A6 1F | X=0000 [FFF]=5A | A=5A
            A6 01 | X=FFFF [000]=5A | A=5A
            """);
    }

    private static void growing() {
        Check.sentence("0: R, and R grows by 1 then; 1: R, and R grows by 2 then");
        Scene.table("""
            A6 80 | X=FFFF [FFF]=5A | A=5A X=0000
            A6 A0 | Y=FFFE [FFE]=5A | A=5A Y=FFFF
            A6 C0 | U=0000 [000]=5A | A=5A U=0001
            A6 E0 | S=FFFF [FFF]=5A | A=5A S=0000
            A6 81 | X=FFFE [FFE]=5A | A=5A X=0000
            A6 A1 | Y=FFFF [FFF]=5A | A=5A Y=0001
            A6 C1 | U=FFFF [FFF]=5A | A=5A U=0001
            A6 E1 | S=0FFF [FFF]=5A | A=5A S=1001
            EC 81 | X=FFFF [FFF]=12 [000]=34 | D=1234 X=0001
            """);
    }

    private static void shrinking() {
        Check.sentence("2: R becomes less by 1, and is it; 3: R becomes less by 2, and is it");
        Scene.table("""
            A6 82 | X=0000 [FFF]=5A | A=5A X=FFFF
            A6 A2 | Y=0001 [000]=5A | A=5A Y=0000
            A6 C2 | U=1000 [FFF]=5A | A=5A U=0FFF
            A6 E2 | S=0000 [FFF]=5A | A=5A S=FFFF
            A6 83 | X=0000 [FFE]=5A | A=5A X=FFFE
            A6 A3 | Y=0001 [FFF]=5A | A=5A Y=FFFF
            A6 C3 | U=0002 [000]=5A | A=5A U=0000
            A6 E3 | S=0000 [FFE]=5A | A=5A S=FFFE
            EC 83 | X=0001 [FFF]=12 [000]=34 | D=1234 X=FFFF
            """);
    }

    private static void accumulatorOffsets() {
        Check.sentence("5: R + B signed; 6: R + A signed; B: R + D");
        for (int kind = 0; kind < 4; kind++) {
            for (int v : new int[] {0x00, 0x01, 0x7F, 0x80, 0xFF}) {
                int offset = v < 0x80 ? v : v - 0x100;
                for (int base : new int[] {0x0300, 0x0000, 0xFFFF}) {
                    String before = BASES[kind] + "=" + Hex.four(base);
                    String then = "U=" + Hex.four(base + offset);
                    String told = Hex.two(v);
                    Scene.done("33" + Hex.two(0x85 | kind << 5), before + " A=33 B=" + told, then);
                    Scene.done("33" + Hex.two(0x86 | kind << 5), before + " B=33 A=" + told, then);
                }
            }
            for (int v : new int[] {0x0000, 0x0001, 0x00FF, 0x7FFF, 0x8000, 0xFF00, 0xFFFF}) {
                for (int base : new int[] {0x0300, 0x0001, 0x8000, 0xFFFF}) {
                    String before = BASES[kind] + "=" + Hex.four(base) + " D=" + Hex.four(v);
                    Scene.done("33" + Hex.two(0x8B | kind << 5), before, "U=" + Hex.four(base + v));
                }
            }
        }
    }

    private static void readOffsets() {
        Check.sentence("8: R + sn; 9: R + nn");
        for (int kind = 0; kind < 4; kind++) {
            for (int base : new int[] {0x0300, 0x0000, 0x8000, 0xFFFF}) {
                String before = BASES[kind] + "=" + Hex.four(base);
                for (int v : new int[] {0x00, 0x01, 0x7F, 0x80, 0xFF}) {
                    Scene.done("33" + Hex.two(0x88 | kind << 5) + Hex.two(v), before,
                        "U=" + Hex.four(base + (v < 0x80 ? v : v - 0x100)));
                }
                for (int v : new int[] {0x0000, 0x0001, 0x00FF, 0x7FFF, 0x8000, 0xFFFF}) {
                    Scene.done("33" + Hex.two(0x89 | kind << 5) + Hex.four(v), before,
                        "U=" + Hex.four(base + v));
                }
            }
        }
    }

    private static void relativeToPc() {
        Check.sentence("C: PC + sn, PC being that behind sn; D: PC + nn, PC likewise");
        for (int pc : new int[] {0x0100, 0x0000, 0x0FFE, 0xFFFC, 0xFFFD, 0xFFFE, 0xFFFF}) {
            for (int kind = 0; kind < 4; kind++) {
                String before = "PC=" + Hex.four(pc);
                for (int v : new int[] {0x00, 0x7F, 0x80, 0xFF}) {
                    Scene.done("33" + Hex.two(0x8C | kind << 5) + Hex.two(v), before,
                        "U=" + Hex.four(pc + 3 + (v < 0x80 ? v : v - 0x100)));
                }
                for (int v : new int[] {0x0000, 0x7FFF, 0x8000, 0xFFFF}) {
                    Scene.done("33" + Hex.two(0x8D | kind << 5) + Hex.four(v), before,
                        "U=" + Hex.four(pc + 4 + v));
                }
            }
        }
        Scene.table("""
            10 AE 8C 00    | [104]=1234 | Y=1234
            10 AE 8D 00 00 | [105]=1234 | Y=1234
            """);
    }

    private static void indirect() {
        Check.sentence("With bit 4 on, the address is the word at that address (INDIRECT)");
        Scene.table("""
            33 91       | X=FFFF [FFF]=04 [000]=56 | U=0456 X=0001
            33 B1       | Y=FFFE [FFE]=0456        | U=0456 Y=0000
            33 93       | X=0001 [FFF]=04 [000]=56 | U=0456 X=FFFF
            33 F3       | S=0000 [FFE]=0456        | U=0456 S=FFFE
            33 94       | X=1FFF [FFF]=FF [000]=FF | U=FFFF
            33 95       | X=0000 B=FF [FFF]=04 [000]=56 | U=0456
            33 96       | X=007F A=80 [FFF]=04 [000]=56 | U=0456
            33 98 80    | X=0000 [F80]=0456        | U=0456
            33 98 7F    | X=0F80 [FFF]=04 [000]=56 | U=0456
            33 99 FF FF | X=0000 [FFF]=04 [000]=56 | U=0456
            33 9B       | X=0001 D=FFFE [FFF]=04 [000]=56 | U=0456
            33 9C FD    | PC=FFFF                  | U=339C PC=0002
            33 9D 00 00 | [104]=0456               | U=0456
            33 9F 0F FF | [FFF]=04 [000]=56        | U=0456
            33 9F FF FF | [FFF]=04 [000]=56        | U=0456
            33 94       | X=0300 [300]=0400 [400]=0500 | U=0400
            A6 94       | X=0300 [300]=FFFF [FFF]=5A   | A=5A
            EC 9F 03 00 | [300]=FFFF [FFF]=12 [000]=34 | D=1234
            """);
    }

    private static void addressFirst() {
        Check.sentence("The address is told first, R with it;"
            + " what else an instruction takes from registers it takes then.");
        Scene.table("""
            AF 81       | X=FFFF           | X=0001 [FFF]=00 [000]=01
            AF 83       | X=0001           | X=FFFF [FFF]=FF [000]=FF CC=08
            AF 80       | X=0FFF           | X=1000 [FFF]=10 [000]=00
            AF 82       | X=0300           | X=02FF [2FF]=02FF
            10 AF A1    | Y=0300           | Y=0302 [300]=0302
            EF C3       | U=0300           | U=02FE [2FE]=02FE
            10 EF E1    | S=0300           | S=0302 [300]=0302
            AE 81       | X=0300 [300]=1234 | X=1234
            10 EE E3    | S=0300 [2FE]=1234 | S=1234 armed
            AC 81       | X=FFFF [FFF]=00 [000]=01 | X=0001 CC=04
            11 A3 C3    | U=0001 [FFF]=FF [000]=FF | U=FFFF CC=04
            11 AC E1    | S=0300 [300]=0302 | S=0302 CC=04
            A6 86       | X=0300 A=80 [280]=5A | A=5A
            A7 86       | X=0300 A=7F      | [37F]=7F
            AB 86       | X=0300 A=02 [302]=05 | A=07
            E6 85       | X=0300 B=FF [2FF]=5A | B=5A
            E3 8B       | X=0300 D=0010 [310]=0001 | D=0011
            EC 8B       | X=0300 D=0010 [310]=1234 | D=1234
            30 80       | X=FFFF           | X=FFFF
            30 81       | X=FFFF           | X=FFFF
            30 83       | X=0001           | X=FFFF
            32 E1       | S=0300           | S=0300 armed
            30 91       | X=0300 [300]=0456 | X=0456
            6E E1       | S=0300           | S=0302 PC=0300
            AD E1       | S=0300           | S=0300 [300]=0102 PC=0300
            AD E3       | S=0300           | S=02FC [2FC]=0102 PC=02FE
            AD F4       | S=0300 [300]=0456 | S=02FE [2FE]=0102 PC=0456
            AD 9F 03 00 | S=0302 [300]=0456 | S=0300 [300]=0104 PC=0456
            """);
    }
}
