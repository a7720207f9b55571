import java.util.Arrays;
import java.util.List;

/** Terms: what is undefined, and that it changes nothing, down to the last byte. */
final class UndefinedEdgesTest {
    // Lines are up but may not come in; every register and the bytes about them are filled.
    private static final String RICH = "A=12 B=34 X=0356 Y=0478 U=059A S=06BC DP=01 CC=7F"
        + " armed NMI=1 FIRQ=1 IRQ=1 [356]=0333 [478]=0444 [59A]=0555 [6BC]=0666 [FF2]=11223344 ";
    private static final String[] INDEXED = {
        "30", "31", "32", "33", "60", "6D", "6E", "6F", "A0", "A7", "AC", "AD", "AF", "E6", "ED",
        "EE", "10A3", "10AE", "10AF", "10EE", "10EF", "11A3", "11AC",
    };
    private static final List<String> AFTER_10 = Arrays.asList(
        ("21 22 23 24 25 26 27 28 29 2A 2B 2C 2D 2E 2F 3F 83 93 A3 B3 8C 9C AC BC 8E 9E AE BE"
        + " 9F AF BF CE DE EE FE DF EF FF").split(" "));
    private static final List<String> AFTER_11 =
        Arrays.asList("83 93 A3 B3 8C 9C AC BC 3F".split(" "));

    public static void main(String[] args) {
        postbytes();
        columns();
        immediateStores();
        prefixes();
        pairs();
        otherCodes();
        changesNothing();
        Check.finish();
    }

    private static void allUndefined(String codes) {
        for (String code : codes.split(" ")) {
            // What follows tells a defined postbyte, one that would grow or shrink R, a word.
            Scene.undefined(code + "000000", RICH);
            Scene.undefined(code + "810356", RICH);
            Scene.undefined(code + "E3FFFF", RICH);
        }
    }

    private static boolean isDone(String code) {
        return new State().with("PC=0100").with(RICH).withBytes(0x100, code).build().step() == 0;
    }

    private static void postbytes() {
        Check.sentence("7, A and E are UNDEFINED");
        indexedUndefined("87 8A 8E A7 AA AE C7 CA CE E7 EA EE 97 9A 9E B7 BA BE D7 DA DE F7 FA FE");
        Check.sentence("so are 0 and 2 with bit 4 on");
        indexedUndefined("90 92 B0 B2 D0 D2 F0 F2");
        for (String postbyte : "80 82 A0 A2 C0 C2 E0 E2 91 93 B1 B3 D1 D3 F1 F3".split(" ")) {
            Check.due("A6 " + postbyte + " is done", isDone("A6" + postbyte), true);
        }
        Check.sentence("and F unless bit 4 is on and R is X");
        indexedUndefined("8F AF BF CF DF EF FF");
        for (String code : INDEXED) {
            Check.due(code + " 9F is done", isDone(code + "9F0356"), true);
        }
        Check.sentence("With bit 7 off");
        for (String postbyte : "07 0A 0E 0F 10 12 17 1A 1E 1F 27 4F 5E 6A 70 72 7F".split(" ")) {
            Check.due("A6 " + postbyte + " is done", isDone("A6" + postbyte), true);
        }
    }

    private static void indexedUndefined(String postbytes) {
        for (String postbyte : postbytes.split(" ")) {
            for (String code : INDEXED) {
                Scene.undefined(code + postbyte + "0356", RICH);
            }
        }
    }

    private static void columns() {
        Check.sentence("1, 2, 5, B are undefined. (0x, 4x, 5x, 6x, 7x)");
        allUndefined("01 02 05 0B 41 42 45 4B 51 52 55 5B 61 62 65 6B 71 72 75 7B");
        Check.sentence("E (not with 4x, 5x): JMP");
        allUndefined("4E 5E");
        for (String code : "0E00 6E84 7E0000".split(" ")) {
            Check.due(code + " is done", isDone(code), true);
        }
    }

    private static void immediateStores() {
        Check.sentence("87, C7, 8F, CF (immediate ST) are undefined.");
        allUndefined("87 C7 8F CF");
        Check.sentence("CD undefined");
        allUndefined("CD");
    }

    private static void prefixes() {
        Check.sentence("After the byte 10: .. After 11: .. Nothing else.");
        for (int code = 0; code < 256; code++) {
            String told = Hex.two(code);
            if (AFTER_10.contains(told)) {
                Check.due("10 " + told + " is done", isDone("10" + told + "000000"), true);
            } else {
                Scene.undefined("10" + told + "810356", RICH);
            }
            if (AFTER_11.contains(told)) {
                Check.due("11 " + told + " is done", isDone("11" + told + "000000"), true);
            } else {
                Scene.undefined("11" + told + "810356", RICH);
            }
        }
        Check.sentence("21 .. 2F: as without 10, but nn for sn");
        allUndefined("1020");
        Scene.done("10 21 7F FF", "", "PC=0104");
        Scene.done("10 2F 7F FF", "CC=04", "PC=8103");
        allUndefined("1010 1011 1110 1111 101083 111083");
    }

    private static void pairs() {
        Check.sentence("others .. are undefined (1E, 1F)");
        for (int known = 0; known < 16; known++) {
            for (String strange : "6 7 C D E F".split(" ")) {
                String other = Integer.toHexString(known).toUpperCase();
                for (String code : "1E 1F".split(" ")) {
                    Scene.undefined(code + strange + other, RICH);
                    Scene.undefined(code + other + strange, RICH);
                }
            }
        }
        Check.sentence("and two of different widths, are undefined");
        for (String word : "0 1 2 3 4 5".split(" ")) {
            for (String small : "8 9 A B".split(" ")) {
                for (String code : "1E 1F".split(" ")) {
                    Scene.undefined(code + word + small, RICH);
                    Scene.undefined(code + small + word, RICH);
                }
            }
        }
    }

    private static void otherCodes() {
        Check.sentence("All other codes are undefined.");
        allUndefined("14 15 18 1B 38 3E");
    }

    private static void changesNothing() {
        Check.sentence("An instruction that is undefined changes nothing");
        State start = new State().with("PC=0100").with(RICH).withBytes(0x100, "01");
        TwinStackChip chip = start.build();
        for (int i = 0; i < 50; i++) {
            Check.due("again and again", chip.step(), 2);
        }
        start.compareRegisters("behind fifty of them", chip);
        chip.poke(0x100, 0x4C);
        Check.due("mended, it is done", chip.step(), 0);
        start.with("A=13 CC=71 PC=0101").compareRegisters("behind the mended one", chip);
        Scene.undefined("87", "PC=FFFF CC=50");
        Scene.undefined("10 20", "PC=0FFF CC=50");
        Scene.undefined("A6 97", "PC=FFFF CC=50 X=0100");
    }
}
