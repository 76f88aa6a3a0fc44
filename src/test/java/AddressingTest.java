/** Promise 5: the ways of addressing of source and destination. */
public final class AddressingTest {
    private static final int MOV = Bench.MOV, ADD = Bench.ADD;

    public static void main(String[] args) {
        numbers();
        sources();
        byteSources();
        steppedRegisters();
        programCounter();
        destinations();
        orderOfWork();
        rounds();
        lostResults();
        Bench.finish();
    }

    private static void numbers() {
        int[][] due = {{3, 0, 0}, {3, 1, 1}, {3, 2, 2}, {3, 3, 0xFFFF}, {2, 2, 4}, {2, 3, 8}};
        for (int[] row : due) {
            String name = "number of register " + row[0] + " way " + row[1];
            new Bench(name).set(5, 0x7777).start(Bench.two(MOV, row[1], row[0], 0, 5))
                    .step(0).reg(5, row[2]).reg(2, 0).reg(3, 0).reg(0, Bench.CODE + 2).cycles(1);
            new Bench(name + " bytes").set(5, 0x7777).start(Bench.b(Bench.two(MOV, row[1], row[0], 0, 5)))
                    .step(0).reg(5, row[2] & 255).reg(2, 0).reg(0, Bench.CODE + 2).cycles(1);
        }
    }

    private static void sources() {
        new Bench("register").set(4, 0x1234).start(Bench.two(MOV, 0, 4, 0, 5)).step(0).reg(5, 0x1234);
        new Bench("SR").set(2, 0x0107).start(Bench.two(MOV, 0, 2, 0, 5)).step(0).reg(5, 0x0107);
        new Bench("indexed").set(4, 0x0200).word(0x0234, 0xABCD).start(Bench.two(MOV, 1, 4, 0, 5), 0x34)
                .step(0).reg(5, 0xABCD).reg(4, 0x0200).reg(0, Bench.CODE + 4);
        new Bench("indexed down").set(4, 0x0200).word(0x01FE, 0xABCD).start(Bench.two(MOV, 1, 4, 0, 5), 0xFFFE)
                .step(0).reg(5, 0xABCD);
        new Bench("absolute").set(2, 0x0107).word(0x0234, 0xABCD).start(Bench.two(MOV, 1, 2, 0, 5), 0x234)
                .step(0).reg(5, 0xABCD).reg(0, Bench.CODE + 4).reg(2, 0x0107);
        new Bench("at the register").set(4, 0x0200).word(0x0200, 0xABCD).start(Bench.two(MOV, 2, 4, 0, 5))
                .step(0).reg(5, 0xABCD).reg(4, 0x0200);
        new Bench("at the register, stepping").set(4, 0x0200).word(0x0200, 0xABCD).start(Bench.two(MOV, 3, 4, 0, 5))
                .step(0).reg(5, 0xABCD).reg(4, 0x0202);
        new Bench("word at an odd address").set(4, 0x0201).word(0x0200, 0xABCD).start(Bench.two(MOV, 3, 4, 0, 5))
                .step(0).reg(5, 0xABCD).reg(4, 0x0203);
    }

    private static void byteSources() {
        new Bench("register.B").set(4, 0x1234).set(5, 0xFFFF).start(Bench.b(Bench.two(MOV, 0, 4, 0, 5))).step(0).reg(5, 0x34);
        new Bench("indexed.B").set(4, 0x0200).word(0x0234, 0xABCD).start(Bench.b(Bench.two(MOV, 1, 4, 0, 5)), 0x35)
                .step(0).reg(5, 0xAB);
        new Bench("absolute.B").word(0x0234, 0xABCD).start(Bench.b(Bench.two(MOV, 1, 2, 0, 5)), 0x234)
                .step(0).reg(5, 0xCD);
        new Bench("at the register.B").set(4, 0x0201).word(0x0200, 0xABCD).start(Bench.b(Bench.two(MOV, 2, 4, 0, 5)))
                .step(0).reg(5, 0xAB).reg(4, 0x0201);
    }

    private static void steppedRegisters() {
        new Bench("R4 by 1").set(4, 0x0200).word(0x0200, 0xABCD).start(Bench.b(Bench.two(MOV, 3, 4, 0, 5)))
                .step(0).reg(5, 0xCD).reg(4, 0x0201);
        new Bench("SP by 2 for bytes").set(1, 0x0200).word(0x0200, 0xABCD).start(Bench.b(Bench.two(MOV, 3, 1, 0, 5)))
                .step(0).reg(5, 0xCD).reg(1, 0x0202);
        new Bench("SP by 2 for words").set(1, 0x0200).word(0x0200, 0xABCD).start(Bench.two(MOV, 3, 1, 0, 5))
                .step(0).reg(5, 0xABCD).reg(1, 0x0202);
        new Bench("PC by 2 for bytes").start(Bench.b(Bench.two(MOV, 3, 0, 0, 5)), 0x1289)
                .step(0).reg(5, 0x89).reg(0, Bench.CODE + 4);
        new Bench("R15 goes round").set(15, 0xFFFF).start(Bench.b(Bench.two(MOV, 3, 15, 0, 5)))
                .step(0).reg(5, 0x0F).reg(15, 0);
        new Bench("odd SP stays odd").set(1, 0x0201).word(0x0200, 0xABCD).start(Bench.two(MOV, 3, 1, 0, 5))
                .step(0).reg(5, 0xABCD).reg(1, 0x0203);
    }

    private static void programCounter() {
        new Bench("PC as source").start(Bench.two(MOV, 0, 0, 0, 5)).step(0).reg(5, Bench.CODE + 2);
        new Bench("PC as source, X for the destination").start(Bench.two(MOV, 0, 0, 1, 2), 0x200)
                .step(0).at(0x200, Bench.CODE + 2).reg(0, Bench.CODE + 4);
        new Bench("X(PC) as source").word(Bench.CODE + 2 + 0x100, 0xBEEF).start(Bench.two(MOV, 1, 0, 0, 5), 0x100)
                .step(0).reg(5, 0xBEEF);
        new Bench("X(PC) as both").word(Bench.CODE + 2 + 0x100, 0xBEEF).start(Bench.two(MOV, 1, 0, 1, 0), 0x100, 0x200)
                .step(0).at(Bench.CODE + 4 + 0x200, 0xBEEF).reg(0, Bench.CODE + 6);
        new Bench("@PC").start(Bench.two(MOV, 2, 0, 0, 5), 0x4316).step(0).reg(5, 0x4316).reg(0, Bench.CODE + 2)
                .step(0).reg(6, 1);
        new Bench("PC as destination").set(4, 0x2345).start(Bench.two(MOV, 0, 4, 0, 0)).step(0).reg(0, 0x2344);
        new Bench("PC as destination of bytes").set(4, 0x2345).start(Bench.b(Bench.two(MOV, 0, 4, 0, 0))).step(0).reg(0, 0x44);
        new Bench("ADD to PC").set(4, 0x0011).start(Bench.two(ADD, 0, 4, 0, 0)).step(0).reg(0, Bench.CODE + 2 + 0x10);
        new Bench("ADD #n to PC").start(Bench.two(ADD, 3, 0, 0, 0), 0x20).step(0).reg(0, Bench.CODE + 4 + 0x20);
    }

    private static void destinations() {
        new Bench("indexed").set(4, 0x1234).set(5, 0x0200).word(0x210, 1).start(Bench.two(ADD, 0, 4, 1, 5), 0x10)
                .step(0).at(0x210, 0x1235).reg(5, 0x0200).reg(0, Bench.CODE + 4);
        new Bench("absolute by 2").set(4, 0x1234).set(2, 0x0200).start(Bench.two(MOV, 0, 4, 1, 2), 0x210)
                .step(0).at(0x210, 0x1234).reg(2, 0x0200);
        new Bench("absolute by 3").set(4, 0x1234).start(Bench.two(MOV, 0, 4, 1, 3), 0x210).step(0).at(0x210, 0x1234);
        new Bench("a byte, low").set(4, 0x1234).word(0x210, 0xAABB).start(Bench.b(Bench.two(MOV, 0, 4, 1, 2)), 0x210)
                .step(0).at(0x210, 0xAA34);
        new Bench("a byte, high").set(4, 0x1234).words(0x210, 0xAABB, 0xCCDD).start(Bench.b(Bench.two(MOV, 0, 4, 1, 2)), 0x211)
                .step(0).at(0x210, 0x34BB).at(0x212, 0xCCDD);
        new Bench("a word at an odd address").set(4, 0x1234).words(0x210, 0xAABB, 0xCCDD)
                .start(Bench.two(MOV, 0, 4, 1, 2), 0x211).step(0).at(0x210, 0x1234).at(0x212, 0xCCDD);
        new Bench("both with X").set(4, 0x0200).set(5, 0x0300).word(0x202, 7).word(0x304, 8)
                .start(Bench.two(ADD, 1, 4, 1, 5), 2, 4).step(0).at(0x304, 15).at(0x202, 7).reg(0, Bench.CODE + 6);
        new Bench("CMP leaves memory").set(4, 1).word(0x210, 9).start(Bench.two(Bench.CMP, 0, 4, 1, 2), 0x210)
                .step(0).at(0x210, 9).reg(2, Bench.C);
        new Bench("neighbours stay").set(4, 0x1234).words(0x210, 1, 2, 3, 4, 5).start(Bench.two(MOV, 0, 4, 1, 2), 0x214)
                .step(0).at(0x210, 1).at(0x212, 2).at(0x214, 0x1234).at(0x216, 4).at(0x218, 5);
    }

    private static void orderOfWork() {
        new Bench("the step on is ahead of y").set(4, 0x0200).word(0x200, 0x11).start(Bench.two(ADD, 3, 4, 0, 4))
                .step(0).reg(4, 0x0213);
        new Bench("the step on is ahead of the address").set(4, 0x0200).word(0x200, 0x11).word(0x204, 2)
                .start(Bench.two(ADD, 3, 4, 1, 4), 2).step(0).at(0x204, 0x13).reg(4, 0x0202);
        new Bench("MOV over the stepped register").set(4, 0x0200).word(0x200, 0x11).start(Bench.two(MOV, 3, 4, 0, 4))
                .step(0).reg(4, 0x11);
    }

    private static void rounds() {
        new Bench("X + register goes round").set(4, 0xFFF0).word(0x0010, 0xABCD).start(Bench.two(MOV, 1, 4, 0, 5), 0x20)
                .step(0).reg(5, 0xABCD);
        new Bench("destination goes round").set(4, 0xFFF0).set(5, 7).start(Bench.two(MOV, 0, 5, 1, 4), 0x22)
                .step(0).at(0x0012, 7);
        Bench top = new Bench("PC goes round").word(0xFFFE, 0xFFFE);
        top.cpu.init();
        top.word(0xFFFE, 0x4035).word(0, 0x4321).step(0).reg(5, 0x4321).reg(0, 2);
        Bench back = new Bench("PC goes round by a jump").word(0xFFFE, 0).word(0, 0x3FFE);
        back.cpu.init();
        back.step(0).reg(0, 0xFFFE);
    }

    private static void lostResults() {
        new Bench("into register 3").set(4, 0x1234).start(Bench.two(MOV, 0, 4, 0, 3), Bench.two(ADD, 0, 3, 0, 4))
                .step(0).reg(3, 0).step(0).reg(4, 0x1234);
        new Bench("flags of an ADD into register 3").set(4, 0x8000).start(Bench.two(ADD, 0, 4, 0, 3))
                .step(0).reg(3, 0).reg(2, Bench.N);
    }
}
