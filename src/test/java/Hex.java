/** Numbers as the tests' words tell them: in base 16, wrapped to a byte or a word. */
final class Hex {
    private Hex() {
    }

    static String two(int v) {
        return String.format("%02X", v & 0xFF);
    }

    static String four(int v) {
        return String.format("%04X", v & 0xFFFF);
    }

    static int parse(String digits) {
        return Integer.parseInt(digits, 16);
    }
}
