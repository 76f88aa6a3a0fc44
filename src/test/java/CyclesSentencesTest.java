/** The sentences of part II on CYCLES that name a boundary case, each with a test of its own. */
public final class CyclesSentencesTest extends Sentences {
    // The ways and registers of SOURCE that are of S 0, 1, 2 and 3.
    private static final int[][][] SOURCES = {
        {{0, 0}, {0, 1}, {0, 2}, {0, 3}, {0, 4}, {0, 15}, {1, 3}, {2, 2}, {2, 3}, {3, 2}, {3, 3}},
        {{2, 0}, {2, 1}, {2, 4}, {2, 15}},
        {{3, 0}, {3, 1}, {3, 4}, {3, 15}},
        {{1, 0}, {1, 1}, {1, 2}, {1, 4}, {1, 15}},
    };

    public static void main(String[] args) throws ReflectiveOperationException {
        holdAll(CyclesSentencesTest.class);
    }

    private static void costs(int word, int due) {
        Computer c = scene().set(SP, 0x400).set(4, 0x2000).set(15, 0x2100).code(word, 0x20, 0x30).build();
        int before = c.cyclesOf();
        due("step at 0x" + hex(word), c.step(), 0);
        due("cycles of 0x" + hex(word), c.cyclesOf() - before, due);
    }

    private static void twoPartsCost(int memory, int d, int... due) {
        for (int kind = 0; kind < 4; kind++) {
            for (int[] source : SOURCES[kind]) {
                for (int operation = MOV; operation <= AND; operation++) {
                    int word = two(operation, source[0], source[1], memory, d);
                    costs(word, due[kind]);
                    costs(b(word), due[kind]);
                }
            }
        }
    }

    private static void onePartCosts(int operation, boolean bytesToo, int... due) {
        for (int kind = 0; kind < 4; kind++) {
            for (int[] source : SOURCES[kind]) {
                boolean another = operation == PUSH && source[0] == 3 && source[1] == PC;
                int word = one(operation, source[0], source[1]);
                if (!another) {
                    costs(word, due[kind]);
                }
                if (!another && bytesToo) {
                    costs(b(word), due[kind]);
                }
            }
        }
    }

    @Says(where = "Part II, CYCLES", value = "S by the SOURCE: 0 a register or number, 1 (ways 2), 2 (way 3), 3 (way 1, but numbers).")
    static void kindsOfSource() {
        for (int s = 0; s < 16; s++) {
            boolean number = s == 3;
            costs(two(MOV, 0, s, 0, 5), 1);
            costs(two(MOV, 1, s, 0, 5), number ? 1 : 3);
            costs(two(MOV, 2, s, 0, 5), number || s == 2 ? 1 : 2);
            costs(two(MOV, 3, s, 0, 5), number || s == 2 ? 1 : 2);
            costs(two(MOV, 0, s, 0, PC), 2);
            costs(two(MOV, 1, s, 0, PC), number ? 2 : 3);
            costs(two(MOV, 2, s, 0, PC), 2);
            costs(two(MOV, 3, s, 0, PC), number || s == 2 ? 2 : 3);
        }
    }

    @Says(where = "Part II, CYCLES", value = "D register 1 to 15: 1, 2, 2, 3.")
    static void toARegister() {
        for (int d = 1; d < 16; d++) {
            twoPartsCost(0, d, 1, 2, 2, 3);
        }
    }

    @Says(where = "Part II, CYCLES", value = "D PC: 2, 2, 3, 3.")
    static void toPc() {
        twoPartsCost(0, PC, 2, 2, 3, 3);
    }

    @Says(where = "Part II, CYCLES", value = "D in memory: 4, 5, 5, 6.")
    static void toMemory() {
        for (int d = 0; d < 16; d++) {
            twoPartsCost(1, d, 4, 5, 5, 6);
        }
    }

    @Says(where = "Part II, CYCLES", value = "ONE PART, RRC SWPB RRA SXT: 1, 3, 3, 4")
    static void changes() {
        onePartCosts(RRC, true, 1, 3, 3, 4);
        onePartCosts(SWPB, false, 1, 3, 3, 4);
        onePartCosts(RRA, true, 1, 3, 3, 4);
        onePartCosts(SXT, false, 1, 3, 3, 4);
    }

    @Says(where = "Part II, CYCLES", value = "PUSH 3, 4, 5, 5, but 4 with way 3 of PC")
    static void pushes() {
        onePartCosts(PUSH, true, 3, 4, 5, 5);
        costs(one(PUSH, 3, PC), 4);
        costs(b(one(PUSH, 3, PC)), 4);
        costs(one(PUSH, 3, SP), 5);
        costs(one(PUSH, 2, PC), 4);
        costs(one(PUSH, 1, PC), 5);
        costs(one(PUSH, 0, PC), 3);
    }

    @Says(where = "Part II, CYCLES", value = "CALL 4, 4, 5, 5.")
    static void calls() {
        onePartCosts(CALL, false, 4, 4, 5, 5);
    }

    @Says(where = "Part II, CYCLES", value = "RETI 5. JUMPS 2. An interrupt 6.")
    static void others() {
        costs(RETI, 5);
        for (int condition = 0; condition < 8; condition++) {
            scene().set(SR, 0).code(0x2000 | condition << 10 | 1).step(0,
                    (condition == 0 || condition == 2 || condition == 5 || condition == 7 ? "PC=1004" : "PC=1002") + " cycles+2");
        }
        scene().set(SP, 0x400).set(SR, GIE).word(0xFFE0, 0x3000).code(0x0000).raise(0)
                .step(0, "PC=3000 SP=3fc SR=0 [3fc]=8 [3fe]=1000 cycles+6 pending=0");
        scene().set(SP, 0x400).set(SR, GIE | OFF).word(0xFFE0, 0x3000).raise(0)
                .step(0, "PC=3000 SP=3fc SR=0 [3fc]=18 [3fe]=1000 cycles+6 pending=0");
    }
}
