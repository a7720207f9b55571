/** Promise 6: the instructions that stand alone: 12, 19, 1A, 1C to 1F, 3A, 3D. */
final class SingleTest {
    private static final String[] WORDS = {"D", "X", "Y", "U", "S", "PC"};
    private static final String[] BYTES = {"A", "B", "CC", "DP"};

    public static void main(String[] args) {
        nothing();
        nothingElse();
        decimal();
        decimalSums();
        flags();
        extend();
        addB();
        multiply();
        transfers();
        exchanges();
        arming();
        Check.finish();
    }

    private static void nothing() {
        Scene.done("12", "A=11 B=22 X=3333 Y=4444 U=5555 S=6666 DP=77 CC=FF", "");
    }

    private static void decimal() {
        Bench bench = new Bench();
        for (int a = 0; a < 256; a++) {
            for (int cc = 0; cc < 256; cc++) {
                bench.step(0x19, 1, a, 0x5A, cc);
                boolean half = cc / 32 % 2 == 1;
                boolean carry = cc % 2 == 1;
                int lower = a % 16;
                int upper = a / 16;
                int sum = a + (half || lower > 9 ? 6 : 0);
                sum += carry || upper > 9 || upper > 8 && lower > 9 ? 96 : 0;
                int due = cc & 0xF2;
                due += carry || sum > 255 ? 1 : 0;
                due += sum % 256 == 0 ? 4 : 0;
                due += sum % 256 > 127 ? 8 : 0;
                Check.due("DAA of " + a + " with CC " + cc, bench.chip().reg(0), sum % 256);
                Check.due("DAA of " + a + ", CC " + cc, bench.chip().reg(8), due);
                Check.due("DAA keeps B", bench.chip().reg(1), 0x5A);
            }
        }
    }

    /** What DAA is for: the sum of two numbers of two decimal digits. */
    private static void decimalSums() {
        Bench bench = new Bench();
        for (int first = 0; first < 100; first++) {
            for (int second = 0; second < 100; second++) {
                int code = 0x8B000019 | packed(second) << 16 | 0x12 << 8;
                bench.step(code, 4, packed(first), 0, 0);
                bench.chip().run(2);
                Check.due(first + " + " + second, bench.chip().reg(0),
                    packed((first + second) % 100));
                Check.due(first + " + " + second + ", C", bench.chip().reg(8) & 1,
                    (first + second) / 100);
            }
        }
    }

    private static int packed(int number) {
        return number / 10 * 16 + number % 10;
    }

    /** Nothing but what is told changes, and PC goes on by one byte, whatever follows. */
    private static void nothingElse() {
        String full = "X=3333 Y=4444 U=5555 S=6666 DP=77 [101]=FFFF ";
        Scene.done("19", full + "A=9A B=22 CC=02", "A=00 CC=07");
        Scene.done("1D", full + "A=9A B=22 CC=02", "A=00 CC=00");
        Scene.done("3A", full + "A=9A B=22 CC=02", "X=3355");
        Scene.done("3D", full + "A=02 B=41 CC=0E", "A=00 B=82 CC=0B");
        Scene.done("13", full + "A=9A B=22 CC=02", "waits=1");
        Scene.done("39", full + "A=9A B=22 CC=02 S=0300 [300]=1234", "PC=1234 S=0302");
        Scene.done("4C", full + "A=9A B=22 CC=02", "A=9B CC=08");
        Scene.done("5F", full + "A=9A B=22 CC=02", "B=00 CC=04");
    }

    private static void flags() {
        Scene.done("1A 55", "CC=A0", "CC=F5");
        Scene.done("1A 00", "CC=A0", "");
        Scene.done("1A FF", "CC=00", "CC=FF");
        Scene.done("1C 55", "CC=F0", "CC=50");
        Scene.done("1C FF", "CC=F0", "");
        Scene.done("1C 00", "CC=FF", "CC=00");
    }

    private static void extend() {
        Scene.done("1D", "A=12 B=80 CC=02", "A=FF CC=08");
        Scene.done("1D", "A=12 B=FF CC=F7", "A=FF CC=F9");
        Scene.done("1D", "A=12 B=7F CC=0E", "A=00 CC=00");
        Scene.done("1D", "A=12 B=00 CC=0B", "A=00 CC=05");
        Scene.done("1D", "A=FF B=01 CC=FF", "A=00 CC=F1");
    }

    private static void addB() {
        Scene.done("3A", "X=1234 B=01 CC=FF", "X=1235");
        Scene.done("3A", "X=1234 B=80 CC=00", "X=12B4");
        Scene.done("3A", "X=FFFF B=FF", "X=00FE");
        Scene.done("3A", "X=FF01 B=FF", "X=0000");
    }

    private static void multiply() {
        Bench bench = new Bench();
        for (int a = 0; a < 256; a++) {
            for (int b = 0; b < 256; b++) {
                int cc = (a + b) % 2 == 0 ? 0xFF : 0x00;
                bench.step(0x3D, 1, a, b, cc);
                int product = a * b;
                int due = cc & 0xFA;
                due += product == 0 ? 4 : 0;
                due += product % 256 > 127 ? 1 : 0;
                Check.due("A of " + a + " * " + b, bench.chip().reg(0), product / 256);
                Check.due("B of " + a + " * " + b, bench.chip().reg(1), product % 256);
                Check.due("CC of " + a + " * " + b, bench.chip().reg(8), due);
            }
        }
    }

    private static final String ALL = "A=1A B=2B X=3333 Y=4444 U=5555 S=6666 PC=0100 DP=77 CC=C5";

    private static String value(String name) {
        switch (name) {
            case "D":
                return "1A2B";
            case "PC":
                // As it stands behind the instruction.
                return "0102";
            default:
                int at = ALL.indexOf(name + "=") + name.length() + 1;
                return ALL.substring(at).split(" ")[0];
        }
    }

    private static void transfers() {
        for (int from = 0; from < 6; from++) {
            for (int to = 0; to < 6; to++) {
                Scene.done(String.format("1F %X%X", from, to), ALL,
                    WORDS[to] + "=" + value(WORDS[from]) + (to == 4 ? " armed" : ""));
            }
        }
        for (int from = 0; from < 4; from++) {
            for (int to = 0; to < 4; to++) {
                Scene.done(String.format("1F %X%X", from + 8, to + 8), ALL,
                    BYTES[to] + "=" + value(BYTES[from]));
            }
        }
    }

    private static void exchanges() {
        for (int first = 0; first < 6; first++) {
            for (int second = 0; second < 6; second++) {
                Scene.done(String.format("1E %X%X", first, second), ALL,
                    WORDS[first] + "=" + value(WORDS[second]) + " " + WORDS[second] + "="
                    + value(WORDS[first]) + (first == 4 || second == 4 ? " armed" : ""));
            }
        }
        for (int first = 0; first < 4; first++) {
            for (int second = 0; second < 4; second++) {
                Scene.done(String.format("1E %X%X", first + 8, second + 8), ALL,
                    BYTES[first] + "=" + value(BYTES[second]) + " " + BYTES[second] + "="
                    + value(BYTES[first]));
            }
        }
    }

    private static void arming() {
        Scene.done("10 CE 12 34", "", "S=1234 armed");
        Scene.done("10 DE 20", "DP=03 [320]=1234", "S=1234 armed");
        Scene.done("10 FE 03 20", "[320]=1234", "S=1234 armed");
        Scene.done("10 EE 84", "X=0320 [320]=1234", "S=1234 armed");
        Scene.done("10 CE 12 34", "armed", "S=1234");
        Scene.done("1F 41", "S=1234", "X=1234");
        Scene.done("1F 44", "S=1234", "armed");
        Scene.done("1E 44", "S=1234", "armed");
        Scene.done("32 64", "S=1234", "S=1238 armed");
        Scene.done("37 40", "U=0300 [300]=1234", "U=0302 S=1234 armed");
        Scene.done("37 BF", "U=0300 CC=00", "U=030A PC=0000 CC=00");
        Scene.done("35 40", "S=0300 [300]=1234", "S=0302 U=1234");
        Scene.done("36 40", "U=0300 S=1234", "U=02FE [2FE]=1234");
        Scene.done("A6 E0", "S=0300 [300]=11", "A=11 S=0301");
        Scene.done("30 E1", "S=0300", "X=0300 S=0302");
        Scene.done("34 02", "S=0300 A=11", "S=02FF [2FF]=11");
        Scene.done("10 DF 20", "S=0300 DP=03", "[320]=0300");
        Scene.undefined("10 EE 87", "");
        Scene.undefined("32 87", "");
        Scene.undefined("1F 84", "");
        Scene.undefined("1E 4A", "");
    }
}
