/** Promise 6: every way of telling an address. */
final class AddressTest {
    public static void main(String[] args) {
        simpleWays();
        wrapping();
        smallOffsets();
        growingAndShrinking();
        offsets();
        relativeToPc();
        indirect();
        registersAreTakenBehindTheAddress();
        loadAddress();
        everyRegisterIsABase();
        Check.finish();
    }

    private static void simpleWays() {
        Scene.done("86 55", "", "A=55");
        Scene.done("96 34", "DP=02 [234]=56", "A=56");
        Scene.done("96 00", "DP=03 [300]=57", "A=57");
        Scene.done("96 FF", "DP=03 [3FF]=58", "A=58");
        Scene.done("B6 02 34", "DP=07 [234]=59", "A=59");
        Scene.done("8E 12 34", "", "X=1234");
        Scene.done("9E 34", "DP=02 [234]=5678", "X=5678");
        Scene.done("BE 02 34", "[234]=789A", "X=789A");
    }

    private static void wrapping() {
        Scene.done("96 34", "DP=FF [F34]=56", "A=56");
        Scene.done("B6 F2 34", "[234]=59", "A=59");
        Scene.done("BE 0F FF", "[FFF]=12 [0]=34", "X=1234");
        Scene.done("BE FF FF", "[FFF]=12 [0]=34", "X=1234");
        Scene.done("BF 3F FF", "X=5678", "[FFF]=56 [0]=78");
        Scene.done("86 55", "PC=FFFF", "A=55 PC=0001");
        Scene.done("86 55", "PC=FFFE", "A=55 PC=0000");
        Scene.done("8E 12 34", "PC=2FFF", "X=1234 PC=3002");
        Scene.done("A6 84", "X=9234 [234]=11", "A=11");
        Scene.done("A6 80", "X=FFFF [FFF]=11", "A=11 X=0000");
        Scene.done("A6 81", "X=FFFF [FFF]=11", "A=11 X=0001");
        Scene.done("A6 82", "X=0000 [FFF]=11", "A=11 X=FFFF");
        Scene.done("A6 83", "X=0001 [FFF]=11", "A=11 X=FFFF");
        Scene.done("A6 1F", "X=0000 [FFF]=11", "A=11");
    }

    private static void smallOffsets() {
        Scene.done("A6 00", "X=0300 [300]=11", "A=11");
        Scene.done("A6 01", "X=0300 [301]=11", "A=11");
        Scene.done("A6 0F", "X=0300 [30F]=11", "A=11");
        Scene.done("A6 10", "X=0300 [2F0]=11", "A=11");
        Scene.done("A6 1F", "X=0300 [2FF]=11", "A=11");
        Scene.done("A6 25", "Y=0300 [305]=11", "A=11");
        Scene.done("A6 5E", "U=0300 [2FE]=11", "A=11");
        Scene.done("A6 6A", "S=0300 [30A]=11", "A=11");
        Scene.done("30 1F", "X=0000 CC=04", "X=FFFF CC=00");
        Scene.done("30 0F", "X=FFF8", "X=0007");
    }

    private static void growingAndShrinking() {
        Scene.done("A6 80", "X=0300 [300]=11", "A=11 X=0301");
        Scene.done("A6 81", "X=0300 [300]=11", "A=11 X=0302");
        Scene.done("A6 82", "X=0300 [2FF]=11", "A=11 X=02FF");
        Scene.done("A6 83", "X=0300 [2FE]=11", "A=11 X=02FE");
        Scene.done("A6 84", "X=0300 [300]=11", "A=11");
    }

    private static void offsets() {
        Scene.done("A6 85", "X=0300 B=7F [37F]=11", "A=11");
        Scene.done("A6 85", "X=0300 B=80 [280]=11", "A=11");
        Scene.done("A6 86", "X=0300 A=FE [2FE]=11", "A=11");
        Scene.done("A6 86", "X=0300 A=02 B=40 [302]=11", "A=11");
        Scene.done("A6 88 7F", "X=0300 [37F]=11", "A=11");
        Scene.done("A6 88 80", "X=0300 [280]=11", "A=11");
        Scene.done("A6 89 02 34", "X=0300 [534]=11", "A=11");
        Scene.done("A6 89 FF FE", "X=0300 [2FE]=11", "A=11");
        Scene.done("A6 8B", "X=0300 D=0123 [423]=11", "A=11");
        Scene.done("A6 8B", "X=0300 D=FF80 [280]=11", "A=11");
        Scene.done("30 89 80 00", "X=9000", "X=1000");
        Scene.done("30 8B", "X=9000 D=8001", "X=1001");
    }

    private static void relativeToPc() {
        Scene.done("A6 8C 10", "[113]=11", "A=11");
        Scene.done("A6 8C 80", "[83]=11", "A=11");
        Scene.done("A6 8D 02 00", "[304]=11", "A=11");
        Scene.done("A6 8D FF 00", "[004]=11", "A=11");
        for (String postbyte : "8C AC CC EC".split(" ")) {
            Scene.done("A6 " + postbyte + " 10", "X=1 Y=2 [113]=11", "A=11");
            Scene.done("30 " + postbyte + " 10", "Y=2", "X=0113");
        }
        for (String postbyte : "8D AD CD ED".split(" ")) {
            Scene.done("A6 " + postbyte + " 01 00", "X=1 Y=2 [204]=11", "A=11");
        }
        Scene.done("31 8C FF", "PC=FFFD", "Y=FFFF PC=0000");
        Scene.done("31 8D 00 01", "PC=FFFD", "Y=0002 PC=0001");
        Scene.done("10 AE 8C 10", "[114]=1122", "Y=1122");
    }

    private static void indirect() {
        Scene.done("A6 91", "X=0300 [300]=0456 [456]=11", "A=11 X=0302");
        Scene.done("A6 93", "X=0300 [2FE]=0456 [456]=11", "A=11 X=02FE");
        Scene.done("A6 94", "X=0300 [300]=0456 [456]=11", "A=11");
        Scene.done("A6 95", "X=0300 B=FE [2FE]=0456 [456]=11", "A=11");
        Scene.done("A6 96", "X=0300 A=10 [310]=0456 [456]=11", "A=11");
        Scene.done("A6 98 F0", "X=0300 [2F0]=0456 [456]=11", "A=11");
        Scene.done("A6 99 01 00", "X=0300 [400]=0456 [456]=11", "A=11");
        Scene.done("A6 9B", "X=0300 D=0110 [410]=0456 [456]=11", "A=11");
        Scene.done("A6 9C 20", "[123]=0456 [456]=11", "A=11");
        Scene.done("A6 9D 01 20", "[224]=0456 [456]=11", "A=11");
        Scene.done("A6 9F 02 30", "[230]=0456 [456]=11", "A=11");
        Scene.done("A6 B4", "Y=0300 [300]=F456 [456]=11", "A=11");
        Scene.done("A6 D1", "U=0FFF [FFF]=04 [000]=56 [456]=11", "A=11 U=1001");
        Scene.done("A6 F8 02", "S=0300 [302]=0456 [456]=11", "A=11");
        Scene.done("30 94", "X=0300 [300]=F456", "X=F456");
        Scene.done("30 9F 03 00", "X=1111 [300]=F456", "X=F456");
        Scene.done("6E 9F 03 00", "[300]=F456", "PC=F456");
        // The word's own address is that before R has grown, even if it lies in what X says.
        Scene.done("AE 91", "X=0300 [300]=0456 [456]=1122", "X=1122");
    }

    private static void registersAreTakenBehindTheAddress() {
        Scene.done("AF 81", "X=0300", "X=0302 [300]=0302");
        Scene.done("AF 83", "X=0300", "X=02FE [2FE]=02FE");
        Scene.done("AF 80", "X=0300", "X=0301 [300]=0301");
        Scene.done("AE 81", "X=0300 [300]=1122", "X=1122");
        Scene.done("AC 81", "X=0300 [300]=0302", "X=0302 CC=04");
        Scene.done("AC 83", "X=0300 [2FE]=02FE", "X=02FE CC=04");
        Scene.done("10 AF A1", "Y=0300", "Y=0302 [300]=0302");
        Scene.done("10 AC A3", "Y=0300 [2FE]=02FD", "Y=02FE");
        Scene.done("EF C1", "U=0300", "U=0302 [300]=0302");
        Scene.done("10 EF E3", "S=0300", "S=02FE [2FE]=02FE");
        Scene.done("11 A3 C1", "U=0300 [300]=0302", "U=0302 CC=04");
        Scene.done("11 AC E1", "S=0300 [300]=0302", "S=0302 CC=04");
        Scene.done("10 EE E1", "S=0300 [300]=1122", "S=1122 armed");
        Scene.done("EC 8B", "X=0300 D=0010 [310]=1122", "D=1122");
        Scene.done("AD E1", "S=0300", "PC=0300 S=0300 [300]=0102");
        Scene.done("AD E3", "S=0300", "PC=02FE S=02FC [2FC]=0102");
        Scene.done("AD F1", "S=0300 [300]=0456", "PC=0456 S=0300 [300]=0102");
    }

    private static void loadAddress() {
        Scene.done("30 84", "X=0300 CC=FF", "CC=FB");
        Scene.done("30 84", "X=0000 CC=00", "CC=04");
        Scene.done("30 A4", "X=0300 Y=0000 CC=08", "X=0000 CC=0C");
        Scene.done("31 84", "X=0000 CC=08", "Y=0000 CC=0C");
        Scene.done("31 84", "X=8000 CC=04", "Y=8000 CC=00");
        Scene.done("32 84", "X=0000 CC=08", "S=0000 CC=08 armed");
        Scene.done("32 84", "X=1234 CC=04", "S=1234 CC=04 armed");
        Scene.done("33 84", "X=0000 CC=00", "U=0000 CC=00");
        Scene.done("33 84", "X=1234 CC=FF", "U=1234");
        Scene.done("30 80", "X=0300", "X=0300");
        Scene.done("30 81", "X=0300", "X=0300");
        Scene.done("30 82", "X=0300", "X=02FF");
        Scene.done("30 83", "X=0300", "X=02FE");
        Scene.done("31 81", "X=0300", "Y=0300 X=0302");
        Scene.done("32 E1", "S=0300", "S=0300 armed");
        Scene.done("32 63", "S=0300", "S=0303 armed");
        Scene.done("33 E3", "S=0300", "S=02FE U=02FE");
        Scene.done("30 85", "X=0300 B=FF", "X=02FF");
        Scene.done("30 86", "X=0300 A=80", "X=0280");
        Scene.done("30 1F", "X=0001", "X=0000 CC=04");
    }

    private static void everyRegisterIsABase() {
        String[] names = {"X", "Y", "U", "S"};
        for (int i = 0; i < 4; i++) {
            for (int kind = 0; kind < 4; kind++) {
                String postbyte = String.format("%02X", 0x80 | i << 5 | kind);
                int at = kind == 2 ? 0x2FF : kind == 3 ? 0x2FE : 0x300;
                int then = kind == 0 ? 0x301 : kind == 1 ? 0x302 : at;
                Scene.done("E6 " + postbyte,
                    names[i] + "=0300 [" + Integer.toHexString(at) + "]=11",
                    "B=11 " + names[i] + "=" + Integer.toHexString(then));
            }
        }
    }
}
