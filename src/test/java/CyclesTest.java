/** Promise 9: what every kind of instruction costs. */
public final class CyclesTest {
    // A source: way, register, and its kind (0 a register or number, 1, 2, 3 as in the document).
    private static final int[][] SOURCES = {
        {0, 4, 0}, {0, 0, 0}, {0, 1, 0}, {0, 2, 0}, {0, 3, 0}, {1, 3, 0}, {2, 3, 0}, {3, 3, 0}, {2, 2, 0}, {3, 2, 0},
        {2, 4, 1}, {2, 0, 1}, {2, 1, 1}, {3, 4, 2}, {3, 0, 2}, {3, 1, 2}, {1, 4, 3}, {1, 0, 3}, {1, 1, 3}, {1, 2, 3},
    };
    private static final int[] TO_REGISTER = {1, 2, 2, 3};
    private static final int[] TO_PC = {2, 2, 3, 3};
    private static final int[] TO_MEMORY = {4, 5, 5, 6};
    private static final int[] CHANGE = {1, 3, 3, 4};
    private static final int[] PUSH = {3, 4, 5, 5};
    private static final int[] CALL = {4, 4, 5, 5};

    public static void main(String[] args) {
        for (int[] source : SOURCES) {
            twoParts(source);
            oneParts(source);
        }
        sums();
        Bench.finish();
    }

    private static void cost(int word, int due) {
        new Bench("0x" + Integer.toHexString(word)).set(1, 0x400).set(4, 0x200).set(5, 0x300).start(word, 0x10, 0x10)
                .step(0).cycles(due);
    }

    private static void twoParts(int[] source) {
        for (int operation = Bench.MOV; operation <= Bench.AND; operation++) {
            for (int bytes = 0; bytes < 2; bytes++) {
                for (int d = 0; d < 16; d++) {
                    int toRegister = Bench.two(operation, source[0], source[1], 0, d) | bytes << 6;
                    cost(toRegister, (d == 0 ? TO_PC : TO_REGISTER)[source[2]]);
                    cost(toRegister | 0x80, TO_MEMORY[source[2]]);
                }
            }
        }
    }

    private static void oneParts(int[] source) {
        int way = source[0], s = source[1], kind = source[2];
        int push = way == 3 && s == 0 ? 4 : PUSH[kind];
        cost(Bench.one(Bench.RRC, way, s), CHANGE[kind]);
        cost(Bench.b(Bench.one(Bench.RRC, way, s)), CHANGE[kind]);
        cost(Bench.one(Bench.SWPB, way, s), CHANGE[kind]);
        cost(Bench.one(Bench.RRA, way, s), CHANGE[kind]);
        cost(Bench.b(Bench.one(Bench.RRA, way, s)), CHANGE[kind]);
        cost(Bench.one(Bench.SXT, way, s), CHANGE[kind]);
        cost(Bench.one(Bench.PUSH, way, s), push);
        cost(Bench.b(Bench.one(Bench.PUSH, way, s)), push);
        cost(Bench.one(Bench.CALL, way, s), CALL[kind]);
    }

    private static void sums() {
        Bench bench = new Bench("a sum").set(1, 0x400).set(4, 0x200)
                .start(Bench.one(Bench.PUSH, 0, 4), 0x3C00, Bench.two(Bench.ADD, 2, 4, 0, 5), 0);
        bench.step(0).cycles(3).step(0).cycles(5).step(0).cycles(7).step(2).cycles(7);
        Bench.due("a sum: cyclesOf with the settings", bench.cpu.cyclesOf(), 11);
    }
}
