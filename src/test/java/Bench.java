/** A chip for tests that go through very many cases: a new one before 512 calls are used up. */
final class Bench {
    private static final int CALLS = 440;

    private TwinStackChip chip;
    private int used = CALLS;

    /** Puts a code of up to 4 bytes to 100, with A, B and CC, and does it. */
    int step(int code, int length, int a, int b, int cc) {
        if (used >= CALLS) {
            chip = new TwinStackChip();
            used = 0;
        }
        used += 12;
        chip.load(0x100, code, length);
        chip.put(0, a);
        chip.put(1, b);
        chip.put(6, 0x100);
        chip.put(8, cc);
        return chip.step();
    }

    TwinStackChip chip() {
        return chip;
    }
}
