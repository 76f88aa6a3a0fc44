/** Promise 5, TWO PARTS: results and flags. */
public final class ArithmeticTest {
    private static final int C = Bench.C, Z = Bench.Z, N = Bench.N, V = Bench.V, ALL = C | Z | N | V;

    public static void main(String[] args) {
        moves();
        sums();
        differences();
        decimals();
        logic();
        bytes();
        statusAsDestination();
        otherBitsOfStatusStay();
        Bench.finish();
    }

    /** x in R4, y in R5, `operation` R4, R5: what R5 and SR are then. */
    private static void word(String name, int operation, int before, int x, int y, int result, int after) {
        new Bench(name).set(4, x).set(5, y).set(Bench.SR, before).start(Bench.two(operation, 0, 4, 0, 5))
                .step(0).reg(5, result).reg(4, x).reg(Bench.SR, after).reg(Bench.PC, Bench.CODE + 2);
    }

    private static void bytesOf(String name, int operation, int before, int x, int y, int result, int after) {
        new Bench(name).set(4, x).set(5, y).set(Bench.SR, before).start(Bench.b(Bench.two(operation, 0, 4, 0, 5)))
                .step(0).reg(5, result).reg(Bench.SR, after);
    }

    private static void moves() {
        word("MOV", Bench.MOV, ALL, 0, 0xFFFF, 0, ALL);
        word("MOV", Bench.MOV, 0, 0x8001, 0, 0x8001, 0);
        word("BIC", Bench.BIC, ALL, 0x0FF0, 0xFFFF, 0xF00F, ALL);
        word("BIC to 0", Bench.BIC, 0, 0xFFFF, 0xFFFF, 0, 0);
        word("BIS", Bench.BIS, 0, 0x0F01, 0x8030, 0x8F31, 0);
        word("BIS", Bench.BIS, ALL, 0, 0, 0, ALL);
    }

    private static void sums() {
        word("ADD", Bench.ADD, ALL, 1, 2, 3, 0);
        word("ADD leaves C out", Bench.ADD, C, 1, 2, 3, 0);
        word("ADD overflow", Bench.ADD, 0, 1, 0x7FFF, 0x8000, N | V);
        word("ADD carry to 0", Bench.ADD, 0, 1, 0xFFFF, 0, C | Z);
        word("ADD of two negatives", Bench.ADD, 0, 0x8000, 0x8000, 0, C | Z | V);
        word("ADD of two negatives, in range", Bench.ADD, V, 0xFFFF, 0xFFFF, 0xFFFE, C | N);
        word("ADDC with C", Bench.ADDC, C, 1, 2, 4, 0);
        word("ADDC without C", Bench.ADDC, ALL & ~C, 1, 2, 3, 0);
        word("ADDC carry by C", Bench.ADDC, C, 0xFFFF, 0, 0, C | Z);
        word("ADDC overflow by C", Bench.ADDC, C, 0, 0x7FFF, 0x8000, N | V);
    }

    private static void differences() {
        word("SUB", Bench.SUB, 0, 2, 5, 3, C);
        word("SUB borrow", Bench.SUB, C, 5, 2, 0xFFFD, N);
        word("SUB to 0", Bench.SUB, 0, 5, 5, 0, C | Z);
        word("SUB of 0", Bench.SUB, 0, 0, 5, 5, C);
        word("SUB overflow", Bench.SUB, 0, 1, 0x8000, 0x7FFF, C | V);
        word("SUB overflow up", Bench.SUB, 0, 0xFFFF, 0x7FFF, 0x8000, N | V);
        word("SUB 0x8000 of 0", Bench.SUB, 0, 0x8000, 0, 0x8000, N | V);
        word("CMP writes nothing", Bench.CMP, 0, 5, 5, 5, C | Z);
        word("CMP below", Bench.CMP, 0, 6, 5, 5, N);
        word("SUBC with C", Bench.SUBC, C, 2, 5, 3, C);
        word("SUBC without C", Bench.SUBC, 0, 2, 5, 2, C);
        word("SUBC borrow", Bench.SUBC, 0, 5, 5, 0xFFFF, N);
        word("SUBC overflow", Bench.SUBC, 0, 0, 0x8000, 0x7FFF, C | V);
    }

    private static void decimals() {
        word("DADD", Bench.DADD, 0, 0x1234, 0x4321, 0x5555, 0);
        word("DADD with C", Bench.DADD, C | V, 0x1999, 0x0000, 0x2000, 0);
        word("DADD carry", Bench.DADD, 0, 0x9999, 0x0001, 0, C | Z);
        word("DADD N", Bench.DADD, V, 0x4000, 0x4000, 0x8000, N);
        word("DADD of digits above 9", Bench.DADD, 0, 0x000A, 0x0000, 0x0010, 0);
        word("DADD of digits above 9", Bench.DADD, C, 0xFFFF, 0xFFFF, 0x5555, C);
        word("DADD of digits above 9", Bench.DADD, 0, 0xFFFF, 0xFFFF, 0x5554, C);
        word("DADD of digits above 9", Bench.DADD, 0, 0x00F0, 0x00B0, 0x0100 | 0, 0);
        bytesOf("DADD.B", Bench.DADD, C, 0x1199, 0x2200, 0, C | Z);
        bytesOf("DADD.B", Bench.DADD, 0, 0x45, 0x38, 0x83, N);
    }

    private static void logic() {
        word("AND", Bench.AND, V, 0xF0F0, 0x8888, 0x8080, C | N);
        word("AND to 0", Bench.AND, ALL, 0x00FF, 0xFF00, 0, Z);
        word("BIT writes nothing", Bench.BIT, V, 0xF0F0, 0x8888, 0x8888, C | N);
        word("BIT of none", Bench.BIT, ALL, 0x00FF, 0xFF00, 0xFF00, Z);
        word("XOR", Bench.XOR, V, 0x0F0F, 0x00FF, 0x0FF0, C);
        word("XOR of two negatives", Bench.XOR, 0, 0x8000, 0x8001, 1, C | V);
        word("XOR to 0", Bench.XOR, C, 0x8000, 0x8000, 0, Z | V);
        word("XOR negative", Bench.XOR, V, 0x8000, 0x0001, 0x8001, C | N);
    }

    private static void bytes() {
        bytesOf("MOV.B", Bench.MOV, ALL, 0x12FF, 0x3456, 0x00FF, ALL);
        bytesOf("ADD.B", Bench.ADD, 0, 0x1201, 0x347F, 0x0080, N | V);
        bytesOf("ADD.B carry", Bench.ADD, 0, 0x0001, 0xFFFF, 0, C | Z);
        bytesOf("ADDC.B", Bench.ADDC, C, 0x00FF, 0x0100, 0, C | Z);
        bytesOf("SUB.B", Bench.SUB, 0, 0xFF01, 0x1280, 0x7F, C | V);
        bytesOf("SUBC.B", Bench.SUBC, 0, 0x0000, 0x1200, 0xFF, N);
        bytesOf("CMP.B writes nothing", Bench.CMP, 0, 0x1134, 0x2234, 0x2234, C | Z);
        bytesOf("BIT.B writes nothing", Bench.BIT, 0, 0xFF80, 0x22FF, 0x22FF, C | N);
        bytesOf("AND.B", Bench.AND, V, 0xFF0F, 0xFFF0, 0, Z);
        bytesOf("BIC.B", Bench.BIC, ALL, 0xFF0F, 0xFFFF, 0x00F0, ALL);
        bytesOf("BIS.B", Bench.BIS, 0, 0xFF0F, 0xFF10, 0x001F, 0);
        bytesOf("XOR.B", Bench.XOR, 0, 0x8080, 0x8081, 0x0001, C | V);
    }

    private static void statusAsDestination() {
        new Bench("ADD into SR").set(4, 0x00F0).set(Bench.SR, 0x0101).start(Bench.two(Bench.ADD, 0, 4, 0, 2))
                .step(0).reg(Bench.SR, 0x01F1);
        new Bench("CMP with SR").set(4, 0x0101).set(Bench.SR, 0x0101).start(Bench.two(Bench.CMP, 0, 4, 0, 2))
                .step(0).reg(Bench.SR, C | Z);
        new Bench("MOV.B into SR").set(4, 0xFFC7).set(Bench.SR, 0xFF00).start(Bench.b(Bench.two(Bench.MOV, 0, 4, 0, 2)))
                .step(0).reg(Bench.SR, 0x00C7);
        new Bench("ADDC of SR").set(5, 0).set(Bench.SR, 0x0201).start(Bench.two(Bench.ADDC, 0, 2, 0, 5))
                .step(0).reg(5, 0x0202).reg(Bench.SR, 0x0200);
        new Bench("AND into SR").set(4, 0xFFFF).set(Bench.SR, 0).start(Bench.two(Bench.AND, 0, 4, 0, 2))
                .step(0).reg(Bench.SR, 0);
    }

    private static void otherBitsOfStatusStay() {
        int others = 0xFFFF & ~(ALL | Bench.OFF);
        word("other bits of SR", Bench.ADD, others | ALL, 1, 1, 2, others);
        word("other bits of SR", Bench.SUB, others, 1, 1, 0, others | C | Z);
    }
}
