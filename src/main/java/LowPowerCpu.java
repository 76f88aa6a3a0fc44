/** A sixteen-bit computer of the MSP430x1xx family: CPU, memory, interrupts and hardware multiplier. */
public final class LowPowerCpu {
    public static final int NONE = -1;

    private static final int PC = 0;
    private static final int SP = 1;
    private static final int SR = 2;
    private static final int R3 = 3;
    private static final int REGISTERS = 16;
    private static final int LINES = 14;
    private static final int ADDRESSES = 0x10000;

    private static final int C = 0x0001;
    private static final int Z = 0x0002;
    private static final int N = 0x0004;
    private static final int GIE = 0x0008;
    private static final int CPUOFF = 0x0010;
    private static final int KEPT_BY_INTERRUPT = 0x0040;
    private static final int V = 0x0100;
    private static final int FLAGS = C | Z | N | V;

    private static final int RESET_VECTOR = 0xFFFE;
    private static final int FIRST_VECTOR = 0xFFE0;
    private static final int MOST_STEPS = 2000;
    private static final int CYCLES_MASK = (1 << 30) - 1;

    private static final int DONE = 0;
    private static final int OFF = 1;
    private static final int UNASSIGNED = 2;

    private static final int MOV = 4;
    private static final int ADD = 5;
    private static final int ADDC = 6;
    private static final int SUBC = 7;
    private static final int SUB = 8;
    private static final int CMP = 9;
    private static final int DADD = 10;
    private static final int BIT = 11;
    private static final int BIC = 12;
    private static final int BIS = 13;
    private static final int XOR = 14;

    private static final int RRC = 0;
    private static final int SWPB = 1;
    private static final int RRA = 2;
    private static final int SXT = 3;
    private static final int PUSH = 4;
    private static final int CALL = 5;

    private static final int RETI_WORD = 0x1300;
    private static final int FIRST_ONE_PART = 0x1000;
    private static final int FIRST_JUMP = 0x2000;
    private static final int FIRST_TWO_PARTS = 0x4000;

    private static final int BYTES_BIT = 0x40;
    private static final int MEMORY_DESTINATION_BIT = 0x80;

    // Where an operand is found is one int, so that no step makes an object: below
    // REGISTER it is an address, below NUMBER a register, from there on a number itself.
    private static final int REGISTER = 0x10000;
    private static final int NUMBER = 0x20000;

    // The tables of cycles are ordered by the kind of source: a register or number, ways 2, 3, 1.
    private static final int[] KIND_OF_WAY = {0, 3, 1, 2};
    private static final int[] TO_REGISTER_CYCLES = {1, 2, 2, 3};
    private static final int[] TO_PC_CYCLES = {2, 2, 3, 3};
    private static final int[] TO_MEMORY_CYCLES = {4, 5, 5, 6};
    private static final int[] CHANGE_CYCLES = {1, 3, 3, 4};
    private static final int[] PUSH_CYCLES = {3, 4, 5, 5};
    private static final int[] CALL_CYCLES = {4, 4, 5, 5};
    private static final int PUSH_WAY_3_OF_PC_CYCLES = 4;
    private static final int RETI_CYCLES = 5;
    private static final int JUMP_CYCLES = 2;
    private static final int INTERRUPT_CYCLES = 6;

    private final Memory memory;
    private final int[] registers;
    private int pendingLines;
    private int cycles;

    public LowPowerCpu() {
        memory = new Memory();
        registers = new int[REGISTERS];
        init();
    }

    public void init() {
        for (int i = 0; i < REGISTERS; i++) {
            registers[i] = 0;
        }
        pendingLines = 0;
        cycles = 0;
        memory.multiplier.clear();
        setRegister(PC, memory.wordAt(RESET_VECTOR));
    }

    public boolean poke(int address, int b) {
        if (address < 0 || address >= ADDRESSES || b < 0 || b > 0xFF) {
            return false;
        }
        memory.placeByte(address, b);
        return true;
    }

    public int peek(int address) {
        if (address < 0 || address >= ADDRESSES) {
            return NONE;
        }
        return memory.byteAt(address);
    }

    public int step() {
        int status = registers[SR];
        if ((status & GIE) != 0 && pendingLines != 0) {
            interrupt();
            return DONE;
        }
        if ((status & CPUOFF) != 0) {
            return OFF;
        }
        int word = memory.wordAt(registers[PC]);
        if (isUnassigned(word)) {
            return UNASSIGNED;
        }
        addToRegister(PC, 2);
        if (word >= FIRST_TWO_PARTS) {
            doTwoParts(word);
        } else if (word >= FIRST_JUMP) {
            doJump(word);
        } else if (word == RETI_WORD) {
            returnFromInterrupt();
        } else {
            doOnePart(word);
        }
        return DONE;
    }

    public int run(int n) {
        if (n < 0 || n > MOST_STEPS) {
            return NONE;
        }
        int told = DONE;
        // A step that CPUOFF held back changes nothing, so all after it would tell the same.
        for (int i = 0; i < n && told == DONE; i++) {
            told = step();
        }
        return told;
    }

    public int reg(int i) {
        if (i < 0 || i >= REGISTERS) {
            return NONE;
        }
        return registers[i];
    }

    public boolean raise(int line) {
        if (line < 0 || line >= LINES) {
            return false;
        }
        pendingLines |= 1 << line;
        return true;
    }

    public int cyclesOf() {
        return cycles;
    }

    public int pending() {
        return pendingLines;
    }

    public int mode() {
        return memory.multiplier.way;
    }

    private void interrupt() {
        int line = highestPendingLine();
        push(registers[PC], false);
        push(registers[SR], false);
        pendingLines &= ~(1 << line);
        setRegister(SR, registers[SR] & KEPT_BY_INTERRUPT);
        setRegister(PC, memory.wordAt(FIRST_VECTOR + 2 * line));
        spend(INTERRUPT_CYCLES);
    }

    private int highestPendingLine() {
        int line = LINES - 1;
        while (line > 0 && (pendingLines & (1 << line)) == 0) {
            line--;
        }
        return line;
    }

    private static boolean isUnassigned(int word) {
        if (word >= FIRST_JUMP) {
            return false;
        }
        if (word < FIRST_ONE_PART || word > RETI_WORD) {
            return true;
        }
        int operation = (word >> 7) & 7;
        boolean wordsOnly = operation == SWPB || operation == SXT || operation == CALL;
        return wordsOnly && (word & BYTES_BIT) != 0;
    }

    private void doTwoParts(int word) {
        boolean bytes = (word & BYTES_BIT) != 0;
        int from = sourcePlace(word, (word >> 8) & 15);
        // x is read ahead of the destination's X, which moves PC on: PC may be the source.
        int x = valueAt(from, bytes);
        int to = destinationPlace(word);
        int y = valueAt(to, bytes);
        int operation = word >> 12;
        int result = combine(operation, x, y, bytes);
        if (operation != CMP && operation != BIT) {
            put(to, result, bytes);
        }
        spendByKind(twoPartsCycles(to), kindOfSource(from, word));
    }

    private void doOnePart(int word) {
        boolean bytes = (word & BYTES_BIT) != 0;
        int from = sourcePlace(word, word & 15);
        int x = valueAt(from, bytes);
        int kind = kindOfSource(from, word);
        int operation = (word >> 7) & 7;
        if (operation == PUSH) {
            push(x, bytes);
            if ((word & 0x3F) == 0x30) {
                spend(PUSH_WAY_3_OF_PC_CYCLES);
            } else {
                spendByKind(PUSH_CYCLES, kind);
            }
        } else if (operation == CALL) {
            push(registers[PC], false);
            setRegister(PC, x);
            spendByKind(CALL_CYCLES, kind);
        } else {
            put(from, change(operation, x, bytes), bytes);
            spendByKind(CHANGE_CYCLES, kind);
        }
    }

    private void doJump(int word) {
        if (isJumpTaken((word >> 10) & 7)) {
            int offset = ((word & 0x3FF) ^ 0x200) - 0x200;
            addToRegister(PC, 2 * offset);
        }
        spend(JUMP_CYCLES);
    }

    private boolean isJumpTaken(int condition) {
        boolean negativeIsOverflow = isSet(N) == isSet(V);
        switch (condition) {
            case 0: return !isSet(Z);
            case 1: return isSet(Z);
            case 2: return !isSet(C);
            case 3: return isSet(C);
            case 4: return isSet(N);
            case 5: return negativeIsOverflow;
            case 6: return !negativeIsOverflow;
            default: return true;
        }
    }

    private void returnFromInterrupt() {
        setRegister(SR, pop());
        setRegister(PC, pop());
        spend(RETI_CYCLES);
    }

    private int sourcePlace(int word, int s) {
        int way = (word >> 4) & 3;
        if (s == R3) {
            return NUMBER + (way == 3 ? 0xFFFF : way);
        }
        if (way == 0) {
            return REGISTER + s;
        }
        if (way == 1) {
            return indexedPlace(s);
        }
        if (s == SR) {
            return NUMBER + (way == 2 ? 4 : 8);
        }
        int address = registers[s];
        if (way == 3) {
            boolean byOne = (word & BYTES_BIT) != 0 && s != PC && s != SP;
            addToRegister(s, byOne ? 1 : 2);
        }
        return address;
    }

    private int destinationPlace(int word) {
        int d = word & 15;
        if ((word & MEMORY_DESTINATION_BIT) == 0) {
            return REGISTER + d;
        }
        return indexedPlace(d);
    }

    private int indexedPlace(int register) {
        // The base is taken ahead of the step past X: for PC it is where X itself stands.
        int base = register == SR ? 0 : registers[register & 15];
        int x = memory.wordAt(registers[PC]);
        addToRegister(PC, 2);
        return (x + base) & 0xFFFF;
    }

    private int valueAt(int place, boolean bytes) {
        if (place < REGISTER) {
            return bytes ? memory.byteAt(place) : memory.wordAt(place);
        }
        int value = place < NUMBER ? registers[place & 15] : place - NUMBER;
        return bytes ? value & 0xFF : value;
    }

    private void put(int place, int value, boolean bytes) {
        if (place >= NUMBER) {
            return;
        }
        if (place >= REGISTER) {
            setRegister(place & 15, value);
        } else if (bytes) {
            memory.writeByte(place, value);
        } else {
            memory.writeWord(place, value);
        }
    }

    private int combine(int operation, int x, int y, boolean bytes) {
        int mask = bytes ? 0xFF : 0xFFFF;
        switch (operation) {
            case MOV: return x;
            case ADD: return add(x, y, 0, mask);
            case ADDC: return add(x, y, registers[SR] & C, mask);
            case SUBC: return add(x ^ mask, y, registers[SR] & C, mask);
            case SUB:
            case CMP: return add(x ^ mask, y, 1, mask);
            case DADD: return addDecimal(x, y, mask);
            case BIC: return y & ~x;
            case BIS: return y | x;
            case XOR: return logical(x ^ y, isHighestSet(x & y, mask), mask);
            default: return logical(x & y, false, mask);
        }
    }

    private int add(int x, int y, int carried, int mask) {
        int sum = x + y + carried;
        int result = sum & mask;
        boolean overflow = isHighestSet(~(x ^ y) & (x ^ result), mask);
        setFlags(result, sum > mask, overflow, mask);
        return result;
    }

    private int addDecimal(int x, int y, int mask) {
        int result = 0;
        int carried = registers[SR] & C;
        for (int shift = 0; shift < 16 && (mask >> shift) != 0; shift += 4) {
            int digit = ((x >> shift) & 15) + ((y >> shift) & 15) + carried;
            carried = digit > 9 ? 1 : 0;
            result |= ((digit - 10 * carried) & 15) << shift;
        }
        setFlags(result, carried == 1, false, mask);
        return result;
    }

    private int logical(int result, boolean overflow, int mask) {
        setFlags(result, result != 0, overflow, mask);
        return result;
    }

    private int change(int operation, int x, boolean bytes) {
        int mask = bytes ? 0xFF : 0xFFFF;
        int highest = (mask + 1) >> 1;
        switch (operation) {
            case RRC: return shifted(x, isSet(C) ? highest : 0, mask);
            case SWPB: return ((x & 0xFF) << 8) | (x >> 8);
            case RRA: return shifted(x, x & highest, mask);
            default: return logical((((x & 0xFF) ^ 0x80) - 0x80) & 0xFFFF, false, mask);
        }
    }

    private int shifted(int x, int above, int mask) {
        int result = (x >> 1) | above;
        setFlags(result, (x & 1) != 0, false, mask);
        return result;
    }

    private static boolean isHighestSet(int value, int mask) {
        return (value & ((mask + 1) >> 1)) != 0;
    }

    private void setFlags(int result, boolean carry, boolean overflow, int mask) {
        int flags = carry ? C : 0;
        if (result == 0) {
            flags |= Z;
        }
        if (isHighestSet(result, mask)) {
            flags |= N;
        }
        if (overflow) {
            flags |= V;
        }
        setRegister(SR, (registers[SR] & ~FLAGS) | flags);
    }

    private boolean isSet(int flag) {
        return (registers[SR] & flag) != 0;
    }

    private void push(int value, boolean bytes) {
        addToRegister(SP, -2);
        if (bytes) {
            memory.writeByte(registers[SP], value);
        } else {
            memory.writeWord(registers[SP], value);
        }
    }

    private int pop() {
        int value = memory.wordAt(registers[SP]);
        addToRegister(SP, 2);
        return value;
    }

    private void addToRegister(int register, int amount) {
        setRegister(register, registers[register & 15] + amount);
    }

    private void setRegister(int register, int value) {
        if (register == R3) {
            return;
        }
        registers[register & 15] = value & (register == PC ? 0xFFFE : 0xFFFF);
    }

    private static int kindOfSource(int from, int word) {
        return from >= REGISTER ? 0 : KIND_OF_WAY[(word >> 4) & 3];
    }

    private static int[] twoPartsCycles(int to) {
        if (to < REGISTER) {
            return TO_MEMORY_CYCLES;
        }
        return to == REGISTER + PC ? TO_PC_CYCLES : TO_REGISTER_CYCLES;
    }

    private void spendByKind(int[] table, int kind) {
        spend(table[kind & 3]);
    }

    private void spend(int amount) {
        cycles = (cycles + amount) & CYCLES_MASK;
    }

    /** The 65,536 bytes, with the multiplier's words in place of those at 0x130 to 0x13F. */
    private static final class Memory {
        // Eight bytes stand in one element: a run may make many objects, and elements are counted.
        private final long[] cells;
        private final Multiplier multiplier;

        private Memory() {
            cells = new long[ADDRESSES / 8];
            multiplier = new Multiplier();
        }

        private static boolean isMultiplier(int address) {
            return (address & 0xFFF0) == 0x0130;
        }

        private int wordAt(int address) {
            if (isMultiplier(address)) {
                return multiplier.wordAtSlot(slotOf(address));
            }
            return (int) (cells[cellOf(address)] >>> ((address & 6) * 8)) & 0xFFFF;
        }

        private int byteAt(int address) {
            int word = wordAt(address);
            return (address & 1) == 0 ? word & 0xFF : word >> 8;
        }

        private void writeWord(int address, int value) {
            if (isMultiplier(address)) {
                multiplier.write(slotOf(address), value);
            } else {
                placeWord(address, value);
            }
        }

        private void writeByte(int address, int value) {
            if (!isMultiplier(address)) {
                placeByte(address, value);
            } else if ((address & 1) == 0) {
                multiplier.write(slotOf(address), value);
            }
        }

        /** Sets one byte and works nothing, be it the multiplier's or not. */
        private void placeByte(int address, int value) {
            int word = wordAt(address);
            int changed = (address & 1) == 0 ? (word & 0xFF00) | value : (word & 0xFF) | (value << 8);
            if (isMultiplier(address)) {
                multiplier.placeWordAtSlot(slotOf(address), changed);
            } else {
                placeWord(address, changed);
            }
        }

        private void placeWord(int address, int value) {
            int shift = (address & 6) * 8;
            int cell = cellOf(address);
            cells[cell] = (cells[cell] & ~(0xFFFFL << shift)) | ((long) value << shift);
        }

        private static int cellOf(int address) {
            return (address & 0xFFFF) >> 3;
        }

        private static int slotOf(int address) {
            return (address >> 1) & 7;
        }
    }

    /** The multiplier; its eight words are slots 0 to 7, of which 0 to 3 are all ONE. */
    private static final class Multiplier {
        private static final int SLOT_TWO = 4;
        private static final int SLOT_LOW = 5;
        private static final int SLOT_HIGH = 6;
        private static final int SLOT_EXTRA = 7;
        private static final long MOST = 0xFFFFFFFFL;

        private int one;
        private int two;
        private int low;
        private int high;
        private int extra;
        private int way;

        private void clear() {
            one = 0;
            two = 0;
            low = 0;
            high = 0;
            extra = 0;
            way = 0;
        }

        private int wordAtSlot(int slot) {
            switch (slot) {
                case SLOT_TWO: return two;
                case SLOT_LOW: return low;
                case SLOT_HIGH: return high;
                case SLOT_EXTRA: return extra;
                default: return one;
            }
        }

        private void placeWordAtSlot(int slot, int value) {
            switch (slot) {
                case SLOT_TWO: two = value; break;
                case SLOT_LOW: low = value; break;
                case SLOT_HIGH: high = value; break;
                case SLOT_EXTRA: extra = value; break;
                default: one = value; break;
            }
        }

        private void write(int slot, int value) {
            if (slot == SLOT_EXTRA) {
                return;
            }
            placeWordAtSlot(slot, value);
            if (slot < SLOT_TWO) {
                way = slot;
            } else if (slot == SLOT_TWO) {
                multiply();
            }
        }

        private void multiply() {
            boolean signed = (way & 1) != 0;
            boolean adding = (way & 2) != 0;
            long product = signed ? (long) (short) one * (short) two : (long) one * two;
            long before = adding ? ((long) high << 16) | low : 0;
            long total = before + product;
            high = (int) (total >> 16) & 0xFFFF;
            low = (int) total & 0xFFFF;
            if (signed) {
                // Bit 31 of a plain signed product is its sign: it always fits 32 bits.
                extra = (high & 0x8000) != 0 ? 0xFFFF : 0;
            } else {
                extra = total > MOST ? 1 : 0;
            }
        }
    }
}
