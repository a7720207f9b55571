/**
 * An eight-bit processor with two accumulators, two index registers and two stacks.
 *
 * <p>The document's numbered promises tell what each public method does.
 */
public final class TwinStackChip {
    // The registers bear the numbers of the face, so that reg and put need no table.
    // X, Y, U, S stand in the order in which a postbyte counts them.
    private static final int A = 0;
    private static final int B = 1;
    private static final int X = 2;
    private static final int Y = 3;
    private static final int U = 4;
    private static final int S = 5;
    private static final int PC = 6;
    private static final int DP = 7;
    private static final int CC = 8;
    private static final int REGISTER_COUNT = 9;
    // Not a register of the face: A and B read and written as one word.
    private static final int D = 9;
    private static final int NO_REGISTER = -1;

    private static final int CARRY = 0x01;
    private static final int OVERFLOW = 0x02;
    private static final int ZERO = 0x04;
    private static final int NEGATIVE = 0x08;
    private static final int IRQ_OFF = 0x10;
    private static final int HALF_CARRY = 0x20;
    private static final int FIRQ_OFF = 0x40;
    private static final int ENTIRE = 0x80;

    private static final int BYTE_TOP = 0x80;
    private static final int WORD_TOP = 0x8000;

    private static final int NMI = 0;
    private static final int FIRQ = 1;
    private static final int IRQ = 2;
    private static final int LINE_COUNT = 3;
    private static final int NO_LINE = -1;

    private static final int DONE = 0;
    private static final int WAITING = 1;
    private static final int UNDEFINED = 2;

    private static final int NO_WAIT = 0;
    private static final int WAIT_BY_SYNC = 1;
    private static final int WAIT_BY_CWAI = 2;

    private static final int IMMEDIATE = 0;
    private static final int DIRECT = 1;
    private static final int INDEXED = 2;

    // What a push or pull takes, as in the byte behind 34 .. 37.
    private static final int PUSH_ALL = 0xFF;
    private static final int PUSH_PC_AND_CC = 0x81;
    private static final int PULL_ALL_BUT_CC = 0xFE;
    private static final int PULL_PC = 0x80;

    private static final int RESET_VECTOR = 0xFFFE;
    private static final int[] LINE_VECTORS = {0xFFFC, 0xFFF6, 0xFFF8};
    private static final int[] SOFTWARE_VECTORS = {0xFFFA, 0xFFF4, 0xFFF2};

    private static final int LARGEST_RUN = 50;

    // A bit for each code that is defined: 16 rows without a prefix, 16 after 10, 16 after 11.
    private static final int[] DEFINED_COLUMNS = {
        0xF7D9, 0xF6CC, 0xFFFF, 0xBEFF, 0xB7D9, 0xB7D9, 0xF7D9, 0xF7D9,
        0x7F7F, 0xFFFF, 0xFFFF, 0xFFFF, 0x5F7F, 0xFFFF, 0xFFFF, 0xFFFF,
        0x0000, 0x0000, 0xFFFE, 0x8000, 0x0000, 0x0000, 0x0000, 0x0000,
        0x5008, 0xD008, 0xD008, 0xD008, 0x4000, 0xC000, 0xC000, 0xC000,
        0x0000, 0x0000, 0x0000, 0x8000, 0x0000, 0x0000, 0x0000, 0x0000,
        0x1008, 0x1008, 0x1008, 0x1008, 0x0000, 0x0000, 0x0000, 0x0000,
    };

    // A bit for each lower half of a postbyte that is defined; F stands apart, it hangs on R too.
    private static final int PLAIN_POSTBYTES = 0x3B7F;
    private static final int INDIRECT_POSTBYTES = 0x3B7A;
    private static final int EXTENDED_INDIRECT = 0x9F;

    private static final int[] TRANSFER_REGISTERS = {
        D, X, Y, U, S, PC, NO_REGISTER, NO_REGISTER,
        A, B, CC, DP, NO_REGISTER, NO_REGISTER, NO_REGISTER, NO_REGISTER,
    };

    private static final int[] ADDRESS_REGISTERS = {X, Y, S, U};

    private final Memory memory = new Memory();
    private final Registers registers = new Registers();
    private final Arithmetic arithmetic = new Arithmetic(registers);
    private final int[] levels = new int[LINE_COUNT];
    private boolean nmiArmed;
    private boolean nmiDue;
    private int waiting;

    public TwinStackChip() {
    }

    public void reset() {
        registers.set(DP, 0);
        registers.turn(IRQ_OFF | FIRQ_OFF, true);
        nmiArmed = false;
        nmiDue = false;
        waiting = NO_WAIT;
        registers.set(PC, memory.wordAt(RESET_VECTOR));
    }

    public boolean poke(int address, int v) {
        if (!Memory.has(address) || v < 0 || v > 255) {
            return false;
        }
        memory.setByte(address, v);
        return true;
    }

    public boolean load(int address, int word, int n) {
        if (n < 1 || n > 4) {
            return false;
        }
        // The first address is looked at before the sum, which could wrap.
        if (!Memory.has(address) || !Memory.has(address + n - 1)) {
            return false;
        }
        for (int i = 0; i < n; i++) {
            memory.setByte(address + i, word >> 8 * (n - 1 - i));
        }
        return true;
    }

    public int peek(int address) {
        return Memory.has(address) ? memory.byteAt(address) : -1;
    }

    public int step() {
        int line = lineToServe();
        if (line != NO_LINE) {
            serve(line);
            return DONE;
        }
        if (staysWaiting()) {
            return WAITING;
        }
        waiting = NO_WAIT;
        int start = registers.get(PC);
        int code = fetchCode();
        if (!isDefined(code)) {
            registers.set(PC, start);
            return UNDEFINED;
        }
        if ((code & 0x80) == 0) {
            executeLowerHalf(code);
        } else {
            executeUpperHalf(code);
        }
        return DONE;
    }

    public int run(int n) {
        if (n < 1 || n > LARGEST_RUN) {
            return -1;
        }
        for (int done = 1; done <= n; done++) {
            if (step() != DONE) {
                return done;
            }
        }
        return n;
    }

    public boolean setLine(int which, int level) {
        if (which < 0 || which >= LINE_COUNT || level < 0 || level > 1) {
            return false;
        }
        if (which == NMI && nmiArmed && level > levels[NMI]) {
            nmiDue = true;
        }
        levels[which] = level;
        return true;
    }

    public int reg(int i) {
        return isFaceRegister(i) ? registers.get(i) : -1;
    }

    public boolean put(int i, int v) {
        if (!isFaceRegister(i)) {
            return false;
        }
        registers.set(i, v);
        return true;
    }

    public int waits() {
        return waiting;
    }

    public int lines() {
        int armedBit = nmiArmed ? 1 : 0;
        int dueBit = nmiDue ? 2 : 0;
        return armedBit | dueBit | levels[NMI] << 2 | levels[FIRQ] << 3 | levels[IRQ] << 4;
    }

    private static boolean isFaceRegister(int i) {
        return i >= 0 && i < REGISTER_COUNT;
    }

    // ---- interrupts and waiting

    private int lineToServe() {
        if (nmiDue) {
            return NMI;
        }
        if (levels[FIRQ] == 1 && !registers.has(FIRQ_OFF)) {
            return FIRQ;
        }
        if (levels[IRQ] == 1 && !registers.has(IRQ_OFF)) {
            return IRQ;
        }
        return NO_LINE;
    }

    private void serve(int line) {
        nmiDue = false;
        // CWAI has pushed all already, with E on, even for FIRQ.
        if (waiting != WAIT_BY_CWAI) {
            registers.turn(ENTIRE, line != FIRQ);
            pushRegisters(S, line == FIRQ ? PUSH_PC_AND_CC : PUSH_ALL);
        }
        registers.turn(line == IRQ ? IRQ_OFF : IRQ_OFF | FIRQ_OFF, true);
        registers.set(PC, memory.wordAt(LINE_VECTORS[line]));
        waiting = NO_WAIT;
    }

    private boolean staysWaiting() {
        if (waiting == WAIT_BY_SYNC) {
            // A due NMI ends SYNC too, but such an NMI has been served before this is asked.
            return levels[FIRQ] == 0 && levels[IRQ] == 0;
        }
        return waiting == WAIT_BY_CWAI;
    }

    private void softwareInterrupt(int page) {
        registers.turn(ENTIRE, true);
        pushRegisters(S, PUSH_ALL);
        if (page == 0) {
            registers.turn(IRQ_OFF | FIRQ_OFF, true);
        }
        registers.set(PC, memory.wordAt(SOFTWARE_VECTORS[page]));
    }

    private void waitForInterrupt(int kept) {
        registers.set(CC, registers.get(CC) & kept | ENTIRE);
        pushRegisters(S, PUSH_ALL);
        waiting = WAIT_BY_CWAI;
    }

    // ---- reading an instruction

    private int fetchByte() {
        int at = registers.get(PC);
        registers.set(PC, at + 1);
        return memory.byteAt(at);
    }

    private int fetchWord() {
        int at = registers.get(PC);
        registers.set(PC, at + 2);
        return memory.wordAt(at);
    }

    /** The page (0 none, 1 after 10, 2 after 11) times 100, and the code. */
    private int fetchCode() {
        int first = fetchByte();
        if (first == 0x10) {
            return 0x100 | fetchByte();
        }
        if (first == 0x11) {
            return 0x200 | fetchByte();
        }
        return first;
    }

    /** All that can make an instruction undefined is looked at here, before anything changes. */
    private boolean isDefined(int code) {
        if ((DEFINED_COLUMNS[code >> 4] >> (code & 15) & 1) == 0) {
            return false;
        }
        int next = memory.byteAt(registers.get(PC));
        if (isIndexed(code)) {
            return isDefinedPostbyte(next);
        }
        if (code == 0x1E || code == 0x1F) {
            return isDefinedPair(next >> 4, next & 15);
        }
        return true;
    }

    private static boolean isIndexed(int code) {
        int row = code >> 4 & 15;
        return row == 0x6 || row == 0xA || row == 0xE || code >= 0x30 && code <= 0x33;
    }

    private static boolean isDefinedPostbyte(int postbyte) {
        if (postbyte < 0x80 || postbyte == EXTENDED_INDIRECT) {
            return true;
        }
        int defined = (postbyte & 0x10) == 0 ? PLAIN_POSTBYTES : INDIRECT_POSTBYTES;
        return (defined >> (postbyte & 15) & 1) != 0;
    }

    private static boolean isDefinedPair(int first, int second) {
        boolean sameWidth = first < 8 == second < 8;
        return sameWidth
            && TRANSFER_REGISTERS[first] != NO_REGISTER
            && TRANSFER_REGISTERS[second] != NO_REGISTER;
    }

    // ---- addresses

    /** An immediate operand is one in memory, too: at PC. */
    private int operandAddress(int mode, int size) {
        switch (mode) {
            case IMMEDIATE:
                int here = registers.get(PC);
                registers.set(PC, here + size);
                return here;
            case DIRECT:
                return registers.get(DP) << 8 | fetchByte();
            case INDEXED:
                return indexedAddress();
            default:
                return fetchWord();
        }
    }

    private int indexedAddress() {
        int postbyte = fetchByte();
        int base = X + (postbyte >> 5 & 3);
        if (postbyte < 0x80) {
            int offset = ((postbyte & 0x1F) ^ 0x10) - 0x10;
            return registers.get(base) + offset & 0xFFFF;
        }
        int address = addressByKind(postbyte & 15, base) & 0xFFFF;
        return (postbyte & 0x10) == 0 ? address : memory.wordAt(address);
    }

    private int addressByKind(int kind, int base) {
        int at = registers.get(base);
        int offset;
        switch (kind) {
            case 0x0:
                registers.set(base, at + 1);
                return at;
            case 0x1:
                registers.set(base, at + 2);
                return at;
            case 0x2:
                registers.set(base, at - 1);
                return at - 1;
            case 0x3:
                registers.set(base, at - 2);
                return at - 2;
            case 0x4:
                return at;
            case 0x5:
                return at + (byte) registers.get(B);
            case 0x6:
                return at + (byte) registers.get(A);
            case 0x8:
                return at + (byte) fetchByte();
            case 0x9:
                return at + fetchWord();
            case 0xB:
                return at + registers.get(D);
            case 0xC:
                offset = (byte) fetchByte();
                return registers.get(PC) + offset;
            case 0xD:
                offset = fetchWord();
                return registers.get(PC) + offset;
            default:
                return fetchWord();
        }
    }

    // ---- instructions

    private void executeLowerHalf(int code) {
        int page = code >> 8;
        int row = code >> 4 & 7;
        int column = code & 15;
        switch (row) {
            case 1:
                executeRowOne(column);
                break;
            case 2:
                branch(column, page == 0 ? (byte) fetchByte() : fetchWord());
                break;
            case 3:
                executeRowThree(page, column);
                break;
            case 4:
                registers.set(A, arithmetic.alter(column, registers.get(A)));
                break;
            case 5:
                registers.set(B, arithmetic.alter(column, registers.get(B)));
                break;
            default:
                alterMemory(column, operandAddress(row == 0 ? DIRECT : row & 3, 1));
                break;
        }
    }

    private void executeRowOne(int column) {
        switch (column) {
            case 0x3:
                waiting = WAIT_BY_SYNC;
                break;
            case 0x6:
                goOn(fetchWord());
                break;
            case 0x7:
                callRelative(fetchWord());
                break;
            case 0x9:
                arithmetic.adjustDecimal();
                break;
            case 0xA:
                registers.set(CC, registers.get(CC) | fetchByte());
                break;
            case 0xC:
                registers.set(CC, registers.get(CC) & fetchByte());
                break;
            case 0xD:
                arithmetic.extendSign();
                break;
            case 0xE:
                exchange(fetchByte());
                break;
            case 0xF:
                transfer(fetchByte());
                break;
            default:
                break;
        }
    }

    private void executeRowThree(int page, int column) {
        switch (column) {
            case 0x0:
            case 0x1:
            case 0x2:
            case 0x3:
                takeAddress(ADDRESS_REGISTERS[column], indexedAddress());
                break;
            case 0x4:
                pushRegisters(S, fetchByte());
                break;
            case 0x5:
                pullRegisters(S, fetchByte());
                break;
            case 0x6:
                pushRegisters(U, fetchByte());
                break;
            case 0x7:
                pullRegisters(U, fetchByte());
                break;
            case 0x9:
                registers.set(PC, pullWord(S));
                break;
            case 0xA:
                registers.set(X, registers.get(X) + registers.get(B));
                break;
            case 0xB:
                returnFromInterrupt();
                break;
            case 0xC:
                waitForInterrupt(fetchByte());
                break;
            case 0xD:
                arithmetic.multiply();
                break;
            default:
                softwareInterrupt(page);
                break;
        }
    }

    private void takeAddress(int register, int address) {
        become(register, address);
        if (register == X || register == Y) {
            registers.turn(ZERO, address == 0);
        }
    }

    private void alterMemory(int column, int address) {
        if (column == 0xE) {
            registers.set(PC, address);
        } else {
            memory.setByte(address, arithmetic.alter(column, memory.byteAt(address)));
        }
    }

    private void branch(int condition, int offset) {
        if (registers.meets(condition)) {
            goOn(offset);
        }
    }

    private void goOn(int offset) {
        registers.set(PC, registers.get(PC) + offset);
    }

    private void callRelative(int offset) {
        pushWord(S, registers.get(PC));
        goOn(offset);
    }

    private void call(int address) {
        pushWord(S, registers.get(PC));
        registers.set(PC, address);
    }

    private void executeUpperHalf(int code) {
        if (code == 0x8D) {
            callRelative((byte) fetchByte());
            return;
        }
        int page = code >> 8;
        int column = code & 15;
        boolean upper = (code & 0x40) != 0;
        boolean word = column == 3 || column >= 0xC;
        int address = operandAddress(code >> 4 & 3, word ? 2 : 1);
        if (column == 0xD && !upper) {
            call(address);
        } else if (word) {
            operateOnWord(page, column, upper, address);
        } else {
            operateOnByte(column, upper ? B : A, address);
        }
    }

    private void operateOnByte(int column, int accumulator, int address) {
        int have = registers.get(accumulator);
        if (column == 7) {
            memory.setByte(address, arithmetic.pass(have, BYTE_TOP));
            return;
        }
        int outcome = arithmetic.combine(column, have, memory.byteAt(address));
        boolean keeps = column == 1 || column == 5;
        if (!keeps) {
            registers.set(accumulator, outcome);
        }
    }

    private void operateOnWord(int page, int column, boolean upper, int address) {
        int register = wordRegister(page, column, upper);
        int have = registers.get(register);
        boolean loads = column == 0xE || column == 0xC && upper;
        if (loads) {
            become(register, arithmetic.pass(memory.wordAt(address), WORD_TOP));
        } else if (column >= 0xD) {
            memory.setWord(address, arithmetic.pass(have, WORD_TOP));
        } else if (column == 3 && upper) {
            registers.set(D, arithmetic.add(have, memory.wordAt(address), 0, WORD_TOP));
        } else {
            int difference = arithmetic.subtract(have, memory.wordAt(address), 0, WORD_TOP);
            boolean keeps = page != 0 || column == 0xC;
            if (!keeps) {
                registers.set(D, difference);
            }
        }
    }

    private static int wordRegister(int page, int column, boolean upper) {
        if (page == 2) {
            return column == 3 ? U : S;
        }
        if (column == 3 || column == 0xD || column == 0xC && upper) {
            return D;
        }
        if (page == 1) {
            return upper ? S : Y;
        }
        return upper ? U : X;
    }

    // ---- registers among each other

    /** Whatever makes S something through here arms NMI: LD, 1E, 1F, 32, 37, but not put. */
    private void become(int register, int v) {
        registers.set(register, v);
        if (register == S) {
            nmiArmed = true;
        }
    }

    private void exchange(int pair) {
        int first = TRANSFER_REGISTERS[pair >> 4];
        int second = TRANSFER_REGISTERS[pair & 15];
        int kept = registers.get(first);
        become(first, registers.get(second));
        become(second, kept);
    }

    private void transfer(int pair) {
        become(TRANSFER_REGISTERS[pair & 15], registers.get(TRANSFER_REGISTERS[pair >> 4]));
    }

    // ---- stacks

    private void pushByte(int stack, int v) {
        registers.set(stack, registers.get(stack) - 1);
        memory.setByte(registers.get(stack), v);
    }

    private void pushWord(int stack, int v) {
        // The lower byte goes first and the stack grows down: a word with its higher byte first.
        registers.set(stack, registers.get(stack) - 2);
        memory.setWord(registers.get(stack), v);
    }

    private int pullByte(int stack) {
        int at = registers.get(stack);
        registers.set(stack, at + 1);
        return memory.byteAt(at);
    }

    private int pullWord(int stack) {
        int at = registers.get(stack);
        registers.set(stack, at + 2);
        return memory.wordAt(at);
    }

    private void pushRegisters(int stack, int which) {
        if ((which & 0x80) != 0) {
            pushWord(stack, registers.get(PC));
        }
        if ((which & 0x40) != 0) {
            pushWord(stack, registers.get(otherStack(stack)));
        }
        if ((which & 0x20) != 0) {
            pushWord(stack, registers.get(Y));
        }
        if ((which & 0x10) != 0) {
            pushWord(stack, registers.get(X));
        }
        if ((which & 0x08) != 0) {
            pushByte(stack, registers.get(DP));
        }
        if ((which & 0x04) != 0) {
            pushByte(stack, registers.get(B));
        }
        if ((which & 0x02) != 0) {
            pushByte(stack, registers.get(A));
        }
        if ((which & 0x01) != 0) {
            pushByte(stack, registers.get(CC));
        }
    }

    private void pullRegisters(int stack, int which) {
        if ((which & 0x01) != 0) {
            registers.set(CC, pullByte(stack));
        }
        if ((which & 0x02) != 0) {
            registers.set(A, pullByte(stack));
        }
        if ((which & 0x04) != 0) {
            registers.set(B, pullByte(stack));
        }
        if ((which & 0x08) != 0) {
            registers.set(DP, pullByte(stack));
        }
        if ((which & 0x10) != 0) {
            registers.set(X, pullWord(stack));
        }
        if ((which & 0x20) != 0) {
            registers.set(Y, pullWord(stack));
        }
        if ((which & 0x40) != 0) {
            become(otherStack(stack), pullWord(stack));
        }
        if ((which & 0x80) != 0) {
            registers.set(PC, pullWord(stack));
        }
    }

    private static int otherStack(int stack) {
        return stack == S ? U : S;
    }

    private void returnFromInterrupt() {
        registers.set(CC, pullByte(S));
        pullRegisters(S, registers.has(ENTIRE) ? PULL_ALL_BUT_CC : PULL_PC);
    }

    /** The bytes; an address beyond the last of them wraps. */
    private static final class Memory {
        private static final int SIZE = 4096;
        private static final int WRAP = SIZE - 1;

        private final int[] bytes = new int[SIZE];

        static boolean has(int address) {
            return address >= 0 && address < SIZE;
        }

        int byteAt(int address) {
            return bytes[address & WRAP];
        }

        void setByte(int address, int v) {
            bytes[address & WRAP] = v & 0xFF;
        }

        int wordAt(int address) {
            return bytes[address & WRAP] << 8 | bytes[address + 1 & WRAP];
        }

        void setWord(int address, int v) {
            bytes[address & WRAP] = v >> 8 & 0xFF;
            bytes[address + 1 & WRAP] = v & 0xFF;
        }
    }

    /** The registers, D among them, each kept within its width; and the flags in CC. */
    private static final class Registers {
        private final int[] values = new int[REGISTER_COUNT];

        int get(int i) {
            return i == D ? values[A] << 8 | values[B] : values[i];
        }

        void set(int i, int v) {
            if (i == D) {
                values[A] = v >> 8 & 0xFF;
                values[B] = v & 0xFF;
            } else {
                boolean word = i >= X && i <= PC;
                values[i] = word ? v & 0xFFFF : v & 0xFF;
            }
        }

        boolean has(int flag) {
            return (values[CC] & flag) != 0;
        }

        void turn(int flags, boolean on) {
            values[CC] = on ? values[CC] | flags : values[CC] & ~flags;
        }

        int carry() {
            return values[CC] & CARRY;
        }

        void setSign(int outcome, int top) {
            int zero = outcome == 0 ? ZERO : 0;
            int negative = (outcome & top) != 0 ? NEGATIVE : 0;
            values[CC] = values[CC] & ~(ZERO | NEGATIVE) | zero | negative;
        }

        /** Conditions stand in pairs: an odd one is the one before it turned over. */
        boolean meets(int condition) {
            boolean odd = (condition & 1) != 0;
            return odd != meetsEven(condition >> 1);
        }

        private boolean meetsEven(int pair) {
            boolean signsAgree = has(NEGATIVE) == has(OVERFLOW);
            switch (pair) {
                case 0:
                    return true;
                case 1:
                    return !has(CARRY | ZERO);
                case 2:
                    return !has(CARRY);
                case 3:
                    return !has(ZERO);
                case 4:
                    return !has(OVERFLOW);
                case 5:
                    return !has(NEGATIVE);
                case 6:
                    return signsAgree;
                default:
                    return signsAgree && !has(ZERO);
            }
        }
    }

    /** What is reckoned, with the flags that tell of it. */
    private static final class Arithmetic {
        private final Registers registers;

        Arithmetic(Registers registers) {
            this.registers = registers;
        }

        int pass(int outcome, int top) {
            registers.turn(OVERFLOW, false);
            registers.setSign(outcome, top);
            return outcome;
        }

        int add(int have, int more, int carry, int top) {
            int sum = have + more + carry;
            int outcome = sum & 2 * top - 1;
            registers.turn(OVERFLOW, ((have ^ outcome) & (more ^ outcome) & top) != 0);
            registers.turn(CARRY, sum != outcome);
            registers.setSign(outcome, top);
            return outcome;
        }

        int subtract(int have, int less, int borrow, int top) {
            int difference = have - less - borrow;
            int outcome = difference & 2 * top - 1;
            registers.turn(OVERFLOW, ((have ^ less) & (have ^ outcome) & top) != 0);
            registers.turn(CARRY, difference < 0);
            registers.setSign(outcome, top);
            return outcome;
        }

        /** The outcome of a byte operation of the rows 8 .. F, kept or not. */
        int combine(int column, int have, int with) {
            switch (column) {
                case 0x0:
                case 0x1:
                    return subtract(have, with, 0, BYTE_TOP);
                case 0x2:
                    return subtract(have, with, registers.carry(), BYTE_TOP);
                case 0x4:
                case 0x5:
                    return pass(have & with, BYTE_TOP);
                case 0x6:
                    return pass(with, BYTE_TOP);
                case 0x8:
                    return pass(have ^ with, BYTE_TOP);
                case 0x9:
                    return addByte(have, with, registers.carry());
                case 0xA:
                    return pass(have | with, BYTE_TOP);
                default:
                    return addByte(have, with, 0);
            }
        }

        private int addByte(int have, int more, int carry) {
            registers.turn(HALF_CARRY, (have & 15) + (more & 15) + carry > 15);
            return add(have, more, carry, BYTE_TOP);
        }

        /** The outcome of an operation of the rows 0 and 4 .. 7 on one byte. */
        int alter(int column, int v) {
            switch (column) {
                case 0x0:
                    return subtract(0, v, 0, BYTE_TOP);
                case 0x3:
                    registers.turn(CARRY, true);
                    return pass(~v & 0xFF, BYTE_TOP);
                case 0x4:
                    return shiftDown(v, 0);
                case 0x6:
                    return shiftDown(v, registers.carry() << 7);
                case 0x7:
                    return shiftDown(v, v & 0x80);
                case 0x8:
                    return shiftUp(v, 0);
                case 0x9:
                    return shiftUp(v, registers.carry());
                case 0xA:
                    return count(v - 1 & 0xFF, v == 0x80);
                case 0xC:
                    return count(v + 1 & 0xFF, v == 0x7F);
                case 0xD:
                    return pass(v, BYTE_TOP);
                default:
                    registers.turn(CARRY, false);
                    return pass(0, BYTE_TOP);
            }
        }

        private int shiftDown(int v, int top) {
            int outcome = v >> 1 | top;
            registers.turn(CARRY, (v & 1) != 0);
            registers.setSign(outcome, BYTE_TOP);
            return outcome;
        }

        private int shiftUp(int v, int below) {
            int outcome = v << 1 & 0xFF | below;
            registers.turn(CARRY, (v & 0x80) != 0);
            registers.turn(OVERFLOW, ((v ^ v << 1) & 0x80) != 0);
            registers.setSign(outcome, BYTE_TOP);
            return outcome;
        }

        private int count(int outcome, boolean overflow) {
            registers.turn(OVERFLOW, overflow);
            registers.setSign(outcome, BYTE_TOP);
            return outcome;
        }

        void adjustDecimal() {
            int have = registers.get(A);
            int high = have >> 4;
            boolean lowIsOver = (have & 15) > 9;
            int sum = have;
            if (registers.has(HALF_CARRY) || lowIsOver) {
                sum += 0x06;
            }
            if (registers.has(CARRY) || high > 9 || high > 8 && lowIsOver) {
                sum += 0x60;
            }
            if (sum > 0xFF) {
                registers.turn(CARRY, true);
            }
            registers.set(A, sum);
            registers.setSign(sum & 0xFF, BYTE_TOP);
        }

        void extendSign() {
            registers.set(A, (registers.get(B) & 0x80) != 0 ? 0xFF : 0);
            pass(registers.get(D), WORD_TOP);
        }

        void multiply() {
            int product = registers.get(A) * registers.get(B);
            registers.set(D, product);
            registers.turn(ZERO, product == 0);
            registers.turn(CARRY, (product & 0x80) != 0);
        }
    }
}
