/** The sentences of part II on TWO PARTS that name a boundary case, each with a test of its own. */
public final class TwoPartsSentencesTest extends Sentences {
    private static final int[] EDGES = {0, 1, 2, 0x7FFE, 0x7FFF, 0x8000, 0x8001, 0xFFFE, 0xFFFF};
    private static final int[] BYTE_EDGES = {0, 1, 0x7F, 0x80, 0x81, 0xFE, 0xFF};

    public static void main(String[] args) throws ReflectiveOperationException {
        holdAll(TwoPartsSentencesTest.class);
    }

    private static int signed(int value, boolean bytes) {
        return bytes ? (byte) value : (short) value;
    }

    /** The sum once without a sign, for C, and once with it, for V: out of the range that has a sign. */
    private static void sum(int operation, boolean bytes, int before, int x, int y, int added, int carried) {
        int most = bytes ? 0xFF : 0xFFFF;
        int plain = added + y + carried;
        int result = plain % (most + 1);
        int withSign = signed(added, bytes) + signed(y, bytes) + carried;
        int after = (plain > most ? C : 0) | (result == 0 ? Z : 0) | (result > most / 2 ? N : 0);
        if (withSign > most / 2 || withSign < -most / 2 - 1) {
            after |= V;
        }
        twoParts(operation, bytes, before, x, y, operation == CMP ? y : result, after);
    }

    private static void sums(int operation, boolean subtracts, int carriedWithoutC, int carriedWithC) {
        for (boolean bytes : new boolean[] {false, true}) {
            int most = bytes ? 0xFF : 0xFFFF;
            int[] edges = bytes ? BYTE_EDGES : EDGES;
            for (int x : edges) {
                for (int y : edges) {
                    sum(operation, bytes, FLAGS & ~C, x, y, subtracts ? most - x : x, carriedWithoutC);
                    sum(operation, bytes, C, x, y, subtracts ? most - x : x, carriedWithC);
                }
            }
        }
    }

    @Says(where = "Part II, TWO PARTS", value = "ADD x + y.")
    static void add() {
        sums(ADD, false, 0, 0);
    }

    @Says(where = "Part II, TWO PARTS", value = "ADDC x + y + C.")
    static void addc() {
        sums(ADDC, false, 0, 1);
    }

    @Says(where = "Part II, TWO PARTS", value = "SUB, CMP y + not x + 1.")
    static void sub() {
        sums(SUB, true, 1, 1);
        sums(CMP, true, 1, 1);
    }

    @Says(where = "Part II, TWO PARTS", value = "SUBC y + not x + C.")
    static void subc() {
        sums(SUBC, true, 0, 1);
    }

    @Says(where = "Part II, TWO PARTS", value = "(C: what is carried out of the highest bit; V: x, or not x, and y are alike in the"
            + " highest bit, and the result is not.)")
    static void carryAndOverflow() {
        twoParts(ADD, false, 0, 0x0001, 0x7FFF, 0x8000, N | V);
        twoParts(ADD, false, 0, 0x0001, 0xFFFF, 0x0000, C | Z);
        twoParts(ADD, false, 0, 0x8000, 0x8000, 0x0000, C | Z | V);
        twoParts(ADD, false, FLAGS, 0xFFFF, 0x8000, 0x7FFF, C | V);
        twoParts(ADD, false, FLAGS, 0xFFFF, 0x7FFF, 0x7FFE, C);
        twoParts(ADDC, false, C, 0x0000, 0x7FFF, 0x8000, N | V);
        twoParts(ADDC, false, C, 0xFFFF, 0xFFFF, 0xFFFF, C | N);
        twoParts(ADDC, false, C, 0x0000, 0xFFFF, 0x0000, C | Z);
        twoParts(SUB, false, 0, 0x0000, 0x0000, 0x0000, C | Z);
        twoParts(SUB, false, C, 0x0001, 0x0000, 0xFFFF, N);
        twoParts(SUB, false, 0, 0x0001, 0x8000, 0x7FFF, C | V);
        twoParts(SUB, false, C, 0x8000, 0x0000, 0x8000, N | V);
        twoParts(SUB, false, C, 0x8000, 0x8000, 0x0000, C | Z);
        twoParts(CMP, false, C, 0xFFFF, 0x7FFF, 0x7FFF, N | V);
        twoParts(SUBC, false, 0, 0x0000, 0x0000, 0xFFFF, N);
        twoParts(SUBC, false, 0, 0xFFFF, 0x0000, 0x0000, Z);
        twoParts(SUBC, false, C, 0xFFFF, 0xFFFF, 0x0000, C | Z);
        twoParts(ADD, true, 0, 0xFF01, 0xFF7F, 0x0080, N | V);
        twoParts(ADD, true, 0, 0xFF01, 0x00FF, 0x0000, C | Z);
        twoParts(SUB, true, 0, 0xFF01, 0x0180, 0x007F, C | V);
        twoParts(SUB, true, C, 0xFF01, 0xFF00, 0x00FF, N);
        twoParts(SUBC, true, 0, 0x00FF, 0xFF00, 0x0000, Z);
    }

    /** The digits of two numbers of so many digits, by the document's words, digit for digit. */
    private static void decimal(int digits, int before, int x, int y) {
        int carried = before & C;
        int result = 0;
        for (int k = 0, weight = 1; k < digits; k++, weight *= 16) {
            int together = x / weight % 16 + y / weight % 16 + carried;
            carried = together > 9 ? 1 : 0;
            result += (together > 9 ? (together - 10) % 16 : together) * weight;
        }
        int highest = digits == 2 ? 0x80 : 0x8000;
        int after = (carried == 1 ? C : 0) | (result == 0 ? Z : 0) | ((result & highest) != 0 ? N : 0);
        twoParts(DADD, digits == 2, before, x, y, result, after);
    }

    @Says(where = "Part II, TWO PARTS", value = "DADD, from the lowest digit (4 bits) on: x's, y's, and what is carried (C at first),"
            + " together; above 9: 10 less (its 4 lowest bits), 1 is carried")
    static void dadd() {
        for (int x = 0; x < 16; x++) {
            for (int y = 0; y < 16; y++) {
                decimal(4, 0, x, y);
                decimal(4, C, x, y);
                decimal(2, C, 0x10 * x + 9, 0x10 * y);
            }
        }
        twoParts(DADD, false, 0, 4, 5, 9, 0);
        twoParts(DADD, false, C, 4, 5, 0x10, 0);
        twoParts(DADD, false, 0, 5, 5, 0x10, 0);
        twoParts(DADD, false, 0, 0xF, 0xA, 0x1F, 0);
        twoParts(DADD, false, 0, 0xF, 0xB, 0x10, 0);
        twoParts(DADD, false, C, 0xF, 0xF, 0x15, 0);
    }

    @Says(where = "Part II, TWO PARTS", value = "C is the last one; V 0.")
    static void daddCarry() {
        twoParts(DADD, false, FLAGS & ~C, 0x9998, 0x0001, 0x9999, N);
        twoParts(DADD, false, FLAGS, 0x9998, 0x0001, 0x0000, C | Z);
        twoParts(DADD, false, V, 0x9999, 0x0001, 0x0000, C | Z);
        twoParts(DADD, false, 0, 0x5000, 0x4999, 0x9999, N);
        twoParts(DADD, false, V, 0x7000, 0x1000, 0x8000, N);
        twoParts(DADD, false, V, 0x8000, 0x8000, 0x6000, C);
        twoParts(DADD, false, 0, 0xFFFF, 0xFFFF, 0x5554, C);
        twoParts(DADD, false, C, 0xFFFF, 0xFFFF, 0x5555, C);
        twoParts(DADD, true, C, 0x0099, 0x0000, 0x0000, C | Z);
        twoParts(DADD, true, V, 0x1199, 0x2201, 0x0000, C | Z);
        twoParts(DADD, true, FLAGS & ~C, 0x0098, 0x0001, 0x0099, N);
        twoParts(DADD, true, 0, 0x0050, 0x0050, 0x0000, C | Z);
    }

    @Says(where = "Part II, TWO PARTS", value = "BIT, AND y and x (C: the result is not 0; V 0).")
    static void and() {
        twoParts(AND, false, FLAGS, 0x5555, 0xAAAA, 0x0000, Z);
        twoParts(AND, false, V, 0x0001, 0xFFFF, 0x0001, C);
        twoParts(AND, false, V, 0x8000, 0x8000, 0x8000, C | N);
        twoParts(AND, true, FLAGS, 0xFF00, 0xFFFF, 0x0000, Z);
        twoParts(AND, true, V, 0x0080, 0xFFFF, 0x0080, C | N);
        twoParts(BIT, false, FLAGS, 0x5555, 0xAAAA, 0xAAAA, Z);
        twoParts(BIT, false, V, 0x0001, 0xFFFF, 0xFFFF, C);
        twoParts(BIT, false, V, 0x8000, 0x8000, 0x8000, C | N);
        twoParts(BIT, true, FLAGS, 0xFF00, 0xFFFF, 0xFFFF, Z);
        twoParts(BIT, true, V, 0x0080, 0xFFFF, 0xFFFF, C | N);
    }

    @Says(where = "Part II, TWO PARTS", value = "BIC y and not x. BIS y or x.")
    static void clearAndSet() {
        twoParts(BIC, false, 0, 0xFFFF, 0xFFFF, 0x0000, 0);
        twoParts(BIC, false, 0, 0x0000, 0xFFFF, 0xFFFF, 0);
        twoParts(BIC, false, 0, 0x8001, 0xC003, 0x4002, 0);
        twoParts(BIC, true, 0, 0x0001, 0xFFFF, 0x00FE, 0);
        twoParts(BIS, false, 0, 0x0000, 0x0000, 0x0000, 0);
        twoParts(BIS, false, 0, 0x8001, 0x4002, 0xC003, 0);
        twoParts(BIS, true, 0, 0xFF80, 0xFF01, 0x0081, 0);
    }

    @Says(where = "Part II, TWO PARTS", value = "XOR y xor x (C: the result is not 0; V: both highest bits are 1).")
    static void xor() {
        twoParts(XOR, false, FLAGS, 0x0000, 0x0000, 0x0000, Z);
        twoParts(XOR, false, C, 0x8000, 0x8000, 0x0000, Z | V);
        twoParts(XOR, false, 0, 0x8000, 0x8001, 0x0001, C | V);
        twoParts(XOR, false, V, 0x8000, 0x7FFF, 0xFFFF, C | N);
        twoParts(XOR, false, V, 0x7FFF, 0x8000, 0xFFFF, C | N);
        twoParts(XOR, false, V, 0x7FFF, 0x7FFE, 0x0001, C);
        twoParts(XOR, true, 0, 0x00FF, 0xFFFF, 0x0000, Z | V);
        twoParts(XOR, true, V, 0x80FF, 0x807F, 0x0080, C | N);
        twoParts(XOR, true, V, 0x8001, 0x8002, 0x0003, C);
    }

    @Says(where = "Part II, TWO PARTS", value = "N is the highest bit of the result, Z: it is 0.")
    static void negativeAndZero() {
        for (int operation : new int[] {ADD, ADDC, XOR, DADD}) {
            int carry = operation == XOR ? C : 0;
            twoParts(operation, false, Z | N, 0, 1, 1, carry);
            twoParts(operation, false, N, 0, 0, 0, Z);
            twoParts(operation, false, Z, 0, 0x8000, 0x8000, N | carry);
            twoParts(operation, false, Z | N, 0, 0x4000, 0x4000, carry);
            twoParts(operation, true, N, 0, 0xFF00, 0, Z);
            twoParts(operation, true, Z, 0, 0x0080, 0x0080, N | carry);
            twoParts(operation, true, Z | N, 0, 0x8040, 0x0040, carry);
        }
    }

    @Says(where = "Part II, TWO PARTS", value = "MOV, BIC, BIS leave the flags.")
    static void flagsAreLeft() {
        for (int before = 0; before < 16; before++) {
            int status = (before & 7) | (before > 7 ? V : 0);
            twoParts(MOV, false, status, 0, 0x8000, 0, status);
            twoParts(MOV, false, status, 0x8000, 0, 0x8000, status);
            twoParts(MOV, true, status, 0x0080, 0xFFFF, 0x0080, status);
            twoParts(BIC, false, status, 0xFFFF, 0x8000, 0, status);
            twoParts(BIC, false, status, 0x0001, 0x8000, 0x8000, status);
            twoParts(BIS, false, status, 0x8000, 0x8001, 0x8001, status);
            twoParts(BIS, true, status, 0, 0, 0, status);
        }
    }

    @Says(where = "Part II, TWO PARTS", value = "CMP, BIT write nothing.")
    static void nothingIsWritten() {
        for (int operation : new int[] {CMP, BIT}) {
            int flags = operation == CMP ? C | Z : C;
            scene().set(4, 0x0034).set(5, 0x0034).code(two(operation, 0, 4, 0, 5)).step(0, "PC=1002 SR=" + hex(flags) + " cycles+1");
            scene().set(4, 0x1234).set(5, 0x5634).code(b(two(operation, 0, 4, 0, 5)))
                    .step(0, "PC=1002 SR=" + hex(flags) + " cycles+1");
            scene().set(4, 0x0034).word(0x2000, 0x0034).code(two(operation, 0, 4, 1, 2), 0x2000)
                    .step(0, "PC=1004 SR=" + hex(flags) + " cycles+4");
            scene().set(4, 0x0034).word(0x2000, 0x3412).code(b(two(operation, 0, 4, 1, 2)), 0x2001)
                    .step(0, "PC=1004 SR=" + hex(flags) + " cycles+4");
            scene().set(4, 0x1002).code(two(operation, 0, 4, 0, PC)).step(0, "PC=1002 SR=" + hex(flags) + " cycles+2");
            scene().set(4, 0x0060).set(SR, 0x0060).code(two(operation, 0, 4, 0, SR))
                    .step(0, "PC=1002 SR=" + hex(0x60 | flags) + " cycles+1");
            scene().set(4, 0x0130).word(0x0130, 2).word(0x0138, 2).code(two(operation, 2, 4, 1, 2), 0x0138)
                    .step(0, "PC=1004 SR=" + hex(flags) + " cycles+5");
        }
    }

    @Says(where = "Part II, TWO PARTS", value = "Flags are set first; then the result is written (into SR as well).")
    static void resultOverFlags() {
        scene().set(4, 0x00E0).set(SR, 0x0101).code(two(ADD, 0, 4, 0, SR)).step(0, "PC=1002 SR=1e1 cycles+1");
        scene().set(4, 0x0100).set(SR, 0x0101).code(two(SUB, 0, 4, 0, SR)).step(0, "PC=1002 SR=1 cycles+1");
        scene().set(4, 0x0101).set(SR, 0x0101).code(two(SUB, 0, 4, 0, SR)).step(0, "PC=1002 SR=0 cycles+1");
        scene().set(4, 0x0000).set(SR, 0x0107).code(two(AND, 0, 4, 0, SR)).step(0, "PC=1002 SR=0 cycles+1");
        scene().set(4, 0xFF60).set(SR, 0x0107).code(two(XOR, 0, 4, 0, SR)).step(0, "PC=1002 SR=fe67 cycles+1");
        scene().set(4, 0x0001).set(SR, 0x0001).code(two(ADDC, 0, 4, 0, SR)).step(0, "PC=1002 SR=3 cycles+1");
        scene().set(4, 0x0060).set(SR, 0xFF07).code(b(two(ADD, 0, 4, 0, SR))).step(0, "PC=1002 SR=67 cycles+1");
        scene().set(4, 0x0010).set(SR, 0x0007).code(two(BIS, 0, 4, 0, SR)).step(0, "PC=1002 SR=17 cycles+1").step(1, "nothing");
        scene().set(5, 0x0001).set(SR, 0x0107).code(two(ADD, 0, SR, 0, 5)).step(0, "PC=1002 SR=0 R5=108 cycles+1");
    }

    @Says(where = "Part II, TWO PARTS", value = "A byte into a register: its upper byte is 0.")
    static void byteIntoARegister() {
        for (int d = 4; d < 16; d++) {
            int s = d == 4 ? 5 : 4;
            scene().set(s, 0x12FF).set(d, 0xABCD).code(b(two(MOV, 0, s, 0, d))).step(0, "PC=1002 R" + d + "=ff cycles+1");
        }
        twoParts(ADD, true, 0, 0, 0xFF01, 1, 0);
        twoParts(SUB, true, 0, 0, 0xFF01, 1, C);
        twoParts(ADDC, true, 0, 0, 0xFF01, 1, 0);
        twoParts(SUBC, true, C, 0, 0xFF01, 1, C);
        twoParts(DADD, true, 0, 0, 0xFF01, 1, 0);
        twoParts(BIC, true, 0, 0, 0xFF01, 1, 0);
        twoParts(BIS, true, 0, 0, 0xFF01, 1, 0);
        twoParts(XOR, true, 0, 0, 0xFF01, 1, C);
        twoParts(AND, true, 0, 1, 0xFF01, 1, C);
        onePart(RRC, true, 0, 0xFF02, 1, 0);
        onePart(RRA, true, 0, 0xFF02, 1, 0);
        scene().set(4, 0x12F0).set(SP, 0xABCD).code(b(two(MOV, 0, 4, 0, SP))).step(0, "PC=1002 SP=f0 cycles+1");
        scene().set(4, 0x12E0).set(SR, 0xFE07).code(b(two(MOV, 0, 4, 0, SR))).step(0, "PC=1002 SR=e0 cycles+1");
        scene().set(4, 0x12F1).code(b(two(MOV, 0, 4, 0, PC))).step(0, "PC=f0 cycles+2");
    }

    @Says(where = "Part II, TWO PARTS", value = "Into register 3: lost.")
    static void intoRegister3() {
        scene().set(4, 0xFFFF).code(two(MOV, 0, 4, 0, 3), two(MOV, 0, 3, 0, 5), two(MOV, 0, 3, 1, 2), 0x2000)
                .word(0x2000, 0x1111).step(0, "PC=1002 cycles+1").step(0, "PC=1004 cycles+1")
                .step(0, "PC=1008 [2000]=0 cycles+4");
        scene().set(4, 0xFFFF).code(two(BIS, 0, 4, 0, 3), two(BIS, 0, 4, 0, 3)).step(0, "PC=1002 cycles+1").step(0, "PC=1004 cycles+1");
        scene().set(4, 0x7FFF).code(two(ADD, 0, 4, 0, 3), two(ADD, 0, 4, 0, 3))
                .step(0, "PC=1002 cycles+1").step(0, "PC=1004 cycles+1");
        scene().code(two(MOV, 3, 0, 0, 3), 0x1234).step(0, "PC=1004 cycles+2");
    }
}
