/** The sentences of part II on ONE PART, JUMPS and UNASSIGNED words that name a boundary case, each with a test of its own. */
public final class OnePartSentencesTest extends Sentences {
    public static void main(String[] args) throws ReflectiveOperationException {
        holdAll(OnePartSentencesTest.class);
    }

    @Says(where = "Part II, ONE PART", value = "the result goes to where it was read (with 3: ahead of the step on; a number's: lost).")
    static void resultGoesWhereItWasRead() {
        scene().set(5, 0x0102).code(one(SWPB, 0, 5)).step(0, "PC=1002 R5=201 cycles+1");
        scene().set(5, 0x2000).word(0x2004, 0x0102).code(one(SWPB, 1, 5), 4).step(0, "PC=1004 [2004]=201 cycles+4");
        scene().set(SR, 0xFEC7).word(0x2004, 0x0102).code(one(SWPB, 1, 2), 0x2004).step(0, "PC=1004 [2004]=201 cycles+4");
        scene().code(one(SWPB, 1, 0), 0).step(0, "PC=1004 cycles+4");
        scene().code(one(SWPB, 1, 0), 2, 0x0102).step(0, "PC=1004 [1004]=201 cycles+4");
        scene().set(5, 0x2000).word(0x2000, 0x0102).word(0x2002, 0x0304).code(one(SWPB, 2, 5)).step(0, "PC=1002 [2000]=201 cycles+3");
        scene().set(5, 0x2000).word(0x2000, 0x0102).word(0x2002, 0x0304).code(one(SWPB, 3, 5))
                .step(0, "PC=1002 R5=2002 [2000]=201 cycles+3");
        scene().set(SP, 0x400).word(0x400, 0x0102).word(0x402, 0x0304).code(one(SXT, 3, SP))
                .step(0, "PC=1002 SP=402 SR=1 [400]=2 cycles+3");
        scene().set(5, 0x2000).word(0x2000, 0x0482).code(b(one(RRA, 3, 5))).step(0, "PC=1002 SR=4 R5=2001 [2000]=4c1 cycles+3");
        scene().set(5, 0x2001).word(0x2000, 0x0482).code(b(one(RRA, 3, 5))).step(0, "PC=1002 R5=2002 [2000]=282 cycles+3");
        scene().set(5, 0xFFFF).word(0xFFFE, 0x0482).code(b(one(RRA, 3, 5))).step(0, "PC=1002 R5=0 [fffe]=282 cycles+3");
        scene().code(one(SWPB, 3, 0), 0x0102).step(0, "PC=1004 [1002]=201 cycles+3");
        scene().code(one(SWPB, 2, 0), 0x0102).step(0, "PC=1002 [1002]=201 cycles+3");
    }

    @Says(where = "Part II, ONE PART", value = "a number's: lost")
    static void numbersAreLost() {
        int[][] numbers = {{3, 0, 0x0000}, {3, 1, 0x0001}, {3, 2, 0x0002}, {3, 3, 0xFFFF}, {2, 2, 0x0004}, {2, 3, 0x0008}};
        for (int[] row : numbers) {
            int half = row[2] == 0xFFFF ? 0xFFFF : row[2] / 2;
            int flags = (row[2] % 2 == 1 ? C : 0) | (half == 0 ? Z : 0) | (half > 0x7FFF ? N : 0);
            scene().code(one(RRA, row[1], row[0])).step(0, "PC=1002" + changed("SR", 0, flags) + " cycles+1");
            scene().code(b(one(RRA, row[1], row[0]))).step(0, "PC=1002" + changed("SR", 0, flags) + " cycles+1");
            scene().code(one(SWPB, row[1], row[0])).step(0, "PC=1002 cycles+1");
            scene().code(one(SXT, row[1], row[0])).step(0, "PC=1002 SR="
                    + hex(row[2] == 0 ? Z : row[2] == 0xFFFF ? C | N : C) + " cycles+1");
        }
        scene().set(SR, 0xFE81).code(one(RRC, 2, 2)).step(0, "PC=1002 SR=fe84 cycles+1");
    }

    @Says(where = "Part II, ONE PART", value = "0 RRC: a bit down, C comes in above, C is what falls out.")
    static void rrc() {
        onePart(RRC, false, 0, 0x0000, 0x0000, Z);
        onePart(RRC, false, C, 0x0000, 0x8000, N);
        onePart(RRC, false, 0, 0x0001, 0x0000, C | Z);
        onePart(RRC, false, C, 0x0001, 0x8000, C | N);
        onePart(RRC, false, 0, 0xFFFF, 0x7FFF, C);
        onePart(RRC, false, C, 0xFFFF, 0xFFFF, C | N);
        onePart(RRC, false, C, 0xFFFE, 0xFFFF, N);
        onePart(RRC, false, 0, 0x8000, 0x4000, 0);
        onePart(RRC, true, C, 0xFF00, 0x0080, N);
        onePart(RRC, true, 0, 0xFF01, 0x0000, C | Z);
        onePart(RRC, true, 0, 0x0100, 0x0000, Z);
        onePart(RRC, true, C, 0x00FF, 0x00FF, C | N);
    }

    @Says(where = "Part II, ONE PART", value = "1 SWPB (words): both bytes change places; no flags.")
    static void swpb() {
        for (int before : new int[] {0, FLAGS, C, Z, N, V}) {
            onePart(SWPB, false, before, 0x0000, 0x0000, before);
            onePart(SWPB, false, before, 0xFF00, 0x00FF, before);
            onePart(SWPB, false, before, 0x00FF, 0xFF00, before);
            onePart(SWPB, false, before, 0x8001, 0x0180, before);
            onePart(SWPB, false, before, 0xFFFF, 0xFFFF, before);
        }
    }

    @Says(where = "Part II, ONE PART", value = "2 RRA: a bit down, the highest one stays, C is what falls out.")
    static void rra() {
        onePart(RRA, false, C, 0x0000, 0x0000, Z);
        onePart(RRA, false, C, 0x0001, 0x0000, C | Z);
        onePart(RRA, false, C, 0x8000, 0xC000, N);
        onePart(RRA, false, 0, 0xFFFF, 0xFFFF, C | N);
        onePart(RRA, false, 0, 0x7FFF, 0x3FFF, C);
        onePart(RRA, false, C, 0x4000, 0x2000, 0);
        onePart(RRA, true, C, 0xFF80, 0x00C0, N);
        onePart(RRA, true, 0, 0x00FF, 0x00FF, C | N);
        onePart(RRA, true, C, 0xFF7F, 0x003F, C);
        onePart(RRA, true, 0, 0x0100, 0x0000, Z);
    }

    @Says(where = "Part II, ONE PART", value = "3 SXT (words): bits 8 to 15 become bit 7; C: the result is not 0.")
    static void sxt() {
        onePart(SXT, false, FLAGS, 0x0000, 0x0000, Z);
        onePart(SXT, false, FLAGS, 0xFF00, 0x0000, Z);
        onePart(SXT, false, 0, 0x0001, 0x0001, C);
        onePart(SXT, false, Z, 0xFF7F, 0x007F, C);
        onePart(SXT, false, Z, 0x0080, 0xFF80, C | N);
        onePart(SXT, false, Z, 0x00FF, 0xFFFF, C | N);
        onePart(SXT, false, 0, 0xFFFF, 0xFFFF, C | N);
    }

    @Says(where = "Part II, ONE PART", value = "(RRC, RRA, SXT: N, Z by the result, V 0.)")
    static void overflowIsZero() {
        for (int operation : new int[] {RRC, RRA, SXT}) {
            int bySxt = operation == SXT ? C : 0;
            onePart(operation, false, V | Z | N, 0x0002, operation == SXT ? 2 : 1, bySxt);
            onePart(operation, false, V | N, 0x0000, 0x0000, Z);
        }
        onePart(RRC, false, V | Z | C, 0x0000, 0x8000, N);
        onePart(RRA, false, V | Z, 0x8000, 0xC000, N);
        onePart(SXT, false, V | Z, 0x0080, 0xFF80, C | N);
        onePart(RRC, true, V | Z | C, 0x0000, 0x0080, N);
        onePart(RRA, true, V | Z, 0x0080, 0x00C0, N);
    }

    @Says(where = "Part II, ONE PART", value = "4 PUSH: SP is 2 less, then x is written at SP")
    static void push() {
        scene().set(SP, 0x400).set(4, 0x1234).set(SR, 0x0107).word(0x3FE, 0xABCD).code(one(PUSH, 0, 4))
                .step(0, "PC=1002 SP=3fe [3fe]=1234 cycles+3");
        scene().set(SP, 0x401).set(4, 0x1234).word(0x3FE, 0xABCD).word(0x400, 0x5566).code(one(PUSH, 0, 4))
                .step(0, "PC=1002 SP=3ff [3fe]=1234 cycles+3");
        scene().set(SP, 0x0002).set(4, 0x1234).code(one(PUSH, 0, 4)).step(0, "PC=1002 SP=0 [0]=1234 cycles+3");
        scene().set(SP, 0x0000).set(4, 0x1234).code(one(PUSH, 0, 4)).step(0, "PC=1002 SP=fffe [fffe]=1234 cycles+3");
        scene().set(SP, 0x400).code(one(PUSH, 0, PC)).step(0, "PC=1002 SP=3fe [3fe]=1002 cycles+3");
        scene().set(SP, 0x400).set(SR, 0x0107).code(one(PUSH, 0, SR)).step(0, "PC=1002 SP=3fe [3fe]=107 cycles+3");
        scene().set(SP, 0x400).code(one(PUSH, 3, 3)).step(0, "PC=1002 SP=3fe [3fe]=ffff cycles+3");
        scene().set(SP, 0x400).word(0x3FE, 0xABCD).code(one(PUSH, 0, 3)).step(0, "PC=1002 SP=3fe [3fe]=0 cycles+3");
        scene().set(SP, 0x400).code(one(PUSH, 3, PC), 0xBEEF).step(0, "PC=1004 SP=3fe [3fe]=beef cycles+4");
    }

    @Says(where = "Part II, ONE PART", value = "(a byte alone at SP itself)")
    static void pushOfAByte() {
        scene().set(SP, 0x400).set(4, 0x1234).word(0x3FE, 0xABCD).code(b(one(PUSH, 0, 4)))
                .step(0, "PC=1002 SP=3fe [3fe]=ab34 cycles+3");
        scene().set(SP, 0x401).set(4, 0x1234).word(0x3FE, 0xABCD).word(0x400, 0x5566).code(b(one(PUSH, 0, 4)))
                .step(0, "PC=1002 SP=3ff [3fe]=34cd cycles+3");
        scene().set(SP, 0x0000).set(4, 0x1234).word(0xFFFE, 0xABCD).code(b(one(PUSH, 0, 4)))
                .step(0, "PC=1002 SP=fffe [fffe]=ab34 cycles+3");
        scene().set(SP, 0x0001).set(4, 0x1234).word(0xFFFE, 0xABCD).word(0, 0x5566).code(b(one(PUSH, 0, 4)))
                .step(0, "PC=1002 SP=ffff [fffe]=34cd cycles+3");
        scene().set(SP, 0x400).word(0x3FE, 0xABCD).code(b(one(PUSH, 3, 3))).step(0, "PC=1002 SP=3fe [3fe]=abff cycles+3");
        scene().set(SP, 0x400).word(0x3FE, 0xABCD).code(b(one(PUSH, 3, PC)), 0xBEEF)
                .step(0, "PC=1004 SP=3fe [3fe]=abef cycles+4");
        scene().set(SP, 0x400).set(4, 0x2001).word(0x2000, 0xABCD).code(b(one(PUSH, 3, 4)))
                .step(0, "PC=1002 SP=3fe R4=2002 [3fe]=ab cycles+5");
    }

    @Says(where = "Part II, ONE PART", value = "4 PUSH: SP is 2 less, then x is written at SP")
    static void pushOfTheStackItself() {
        scene().set(SP, 0x400).code(one(PUSH, 0, SP)).step(0, "PC=1002 SP=3fe [3fe]=400 cycles+3");
        scene().set(SP, 0x400).word(0x400, 0x1234).code(one(PUSH, 2, SP)).step(0, "PC=1002 SP=3fe [3fe]=1234 cycles+4");
        scene().set(SP, 0x400).word(0x400, 0x1234).code(one(PUSH, 3, SP)).step(0, "PC=1002 cycles+5");
        scene().set(SP, 0x400).word(0x402, 0x1234).code(one(PUSH, 1, SP), 2).step(0, "PC=1004 SP=3fe [3fe]=1234 cycles+5");
    }

    @Says(where = "Part II, ONE PART", value = "5 CALL (words): SP is 2 less, PC is written at SP, PC is x.")
    static void call() {
        scene().set(SP, 0x400).set(4, 0x3000).set(SR, 0x0107).code(one(CALL, 0, 4)).step(0, "PC=3000 SP=3fe [3fe]=1002 cycles+4");
        scene().set(SP, 0x400).set(4, 0xFFFF).code(one(CALL, 0, 4)).step(0, "PC=fffe SP=3fe [3fe]=1002 cycles+4");
        scene().set(SP, 0x400).code(one(CALL, 3, PC), 0x3000).step(0, "PC=3000 SP=3fe [3fe]=1004 cycles+5");
        scene().set(SP, 0x400).word(0x2000, 0x3000).code(one(CALL, 1, 2), 0x2000).step(0, "PC=3000 SP=3fe [3fe]=1004 cycles+5");
        scene().set(SP, 0x400).code(one(CALL, 1, PC), 2, 0x3000).step(0, "PC=3000 SP=3fe [3fe]=1004 cycles+5");
        scene().set(SP, 0x400).set(4, 0x2000).word(0x2000, 0x3000).code(one(CALL, 2, 4)).step(0, "PC=3000 SP=3fe [3fe]=1002 cycles+4");
        scene().set(SP, 0x400).set(4, 0x2000).word(0x2000, 0x3000).code(one(CALL, 3, 4))
                .step(0, "PC=3000 SP=3fe R4=2002 [3fe]=1002 cycles+5");
        scene().set(SP, 0x400).code(one(CALL, 3, 2)).step(0, "PC=8 SP=3fe [3fe]=1002 cycles+4");
        scene().set(SP, 0x400).code(one(CALL, 3, 3)).step(0, "PC=fffe SP=3fe [3fe]=1002 cycles+4");
        scene().set(SP, 0x400).code(one(CALL, 0, PC)).step(0, "PC=1002 SP=3fe [3fe]=1002 cycles+4");
        scene().set(SP, 0x400).code(one(CALL, 0, SP)).step(0, "PC=400 SP=3fe [3fe]=1002 cycles+4");
        scene().set(SP, 0x400).word(0x400, 0x3000).code(one(CALL, 3, SP)).step(0, "PC=3000 [400]=1002 cycles+5");
        scene().set(SP, 0x401).set(4, 0x3000).code(one(CALL, 0, 4)).step(0, "PC=3000 SP=3ff [3fe]=1002 cycles+4");
    }

    @Says(where = "Part II, ONE PART", value = "6 RETI (0x1300 alone): SR is the word at SP, SP 2 more, then PC and SP likewise.")
    static void reti() {
        scene().set(SP, 0x400).word(0x400, 0xFFEF).word(0x402, 0x3001).code(RETI).step(0, "PC=3000 SP=404 SR=ffef cycles+5");
        scene().set(SP, 0x400).set(SR, 0x0107).word(0x402, CODE).code(RETI).step(0, "SP=404 SR=0 cycles+5");
        scene().set(SP, 0x400).word(0x400, OFF).word(0x402, 0x3000).code(RETI).step(0, "PC=3000 SP=404 SR=10 cycles+5")
                .step(1, "nothing");
        for (int word = 0x1301; word < 0x1400; word++) {
            Computer c = scene().set(SP, 0x400).word(0x400, 0x0107).word(0x402, 0x3000).code(word).build();
            due("step at 0x" + hex(word), c.step(), 2);
            due("SP then", c.reg(SP), 0x400);
            due("SR then", c.reg(SR), 0);
            due("PC then", c.reg(PC), CODE);
        }
    }

    @Says(where = "Part II, JUMPS", value = "bits 9 to 0 with a sign, twice that, are added to PC")
    static void offsets() {
        int[][] due = {{0x000, 0x1002}, {0x001, 0x1004}, {0x0FF, 0x1200}, {0x100, 0x1202}, {0x1FE, 0x13FE}, {0x1FF, 0x1400},
            {0x200, 0x0C02}, {0x201, 0x0C04}, {0x300, 0x0E02}, {0x3FE, 0x0FFE}};
        for (int[] row : due) {
            scene().code(0x3C00 | row[0]).step(0, "PC=" + hex(row[1]) + " cycles+2");
        }
        scene().code(0x3FFF).step(0, "cycles+2");
        for (int condition = 0; condition < 8; condition++) {
            scene().code(0x2000 | condition << 10).step(0, "PC=1002 cycles+2");
            scene().set(SR, FLAGS).code(0x2000 | condition << 10).step(0, "PC=1002 cycles+2");
        }
        scene().at(0xFFFE).code(0x3DFF).step(0, "PC=3fe cycles+2");
        scene().at(0x0000).code(0x3E00).step(0, "PC=fc02 cycles+2");
    }

    @Says(where = "Part II, JUMPS", value = "0 Z is 0, 1 Z is 1, 2 C is 0, 3 C is 1, 4 N is 1, 5 N is V, 6 N is not V, 7 always.")
    static void conditions() {
        for (int flags = 0; flags < 16; flags++) {
            int status = (flags & 7) | (flags > 7 ? V : 0);
            boolean c = (status & C) == C, z = (status & Z) == Z, n = (status & N) == N, v = (status & V) == V;
            boolean[] taken = {!z, z, !c, c, n, n && v || !n && !v, n && !v || !n && v, true};
            for (int condition = 0; condition < 8; condition++) {
                String pc = taken[condition] ? "PC=1012" : "PC=1002";
                scene().set(SR, status | 0xFE60).code(0x2008 | condition << 10).step(0, pc + " cycles+2");
            }
        }
    }

    /** Of the first and the last word everything is looked at, of those between the answer, PC and the cycles. */
    private static void unassigned(int first, int last) {
        for (int word : new int[] {first, last}) {
            scene().set(SP, 0x400).set(4, 0x2000).set(15, 0x2000).set(SR, 0x0107).word(0x2000, 0x1234).code(word, 0x2000)
                    .step(2, "nothing").step(2, "nothing");
        }
        Computer c = null;
        for (int word = first; word <= last; word++) {
            if (c == null || c.calls() > 400) {
                c = scene().set(SP, 0x400).set(SR, 0x0107).build();
            }
            c.word(CODE, word);
            due("step at 0x" + hex(word), c.step(), 2);
            due("PC", c.reg(PC), CODE);
            due("cycles", c.cyclesOf(), 4);
        }
    }

    @Says(where = "Part II, UNASSIGNED", value = "(bytes of SWPB, SXT, CALL;")
    static void unassignedBytes() {
        unassigned(0x10C0, 0x10FF);
        unassigned(0x11C0, 0x11FF);
        unassigned(0x12C0, 0x12FF);
    }

    @Says(where = "Part II, UNASSIGNED", value = "0x1301 to 0x13FF;")
    static void unassignedByReti() {
        unassigned(0x1301, 0x13FF);
    }

    @Says(where = "Part II, UNASSIGNED", value = "0x1400 to 0x1FFF;")
    static void unassignedAboveReti() {
        unassigned(0x1400, 0x1FFF);
    }

    @Says(where = "Part II, UNASSIGNED", value = "below 0x1000).")
    static void unassignedBelow() {
        unassigned(0x0000, 0x0FFF);
    }

    private static void assigned(int word, int status, String effect) {
        scene().set(SP, 0x400).set(15, 0x2000).set(SR, status).word(0x400, 0x0107).word(0x402, 0x3000).word(0x2000, 0x1203)
                .word(0x2010, 0x0307).code(word, 0x000F).step(0, effect);
    }

    @Says(where = "Part II, UNASSIGNED", value = "All other words are UNASSIGNED")
    static void noneButTheOthers() {
        assigned(0x1000, 0, "PC=800 cycles+1");
        assigned(0x107F, C, "PC=1002 SR=5 R15=2001 [2000]=1281 cycles+3");
        assigned(0x1080, 0, "PC=210 cycles+1");
        assigned(0x10BF, 0, "PC=1002 R15=2002 [2000]=312 cycles+3");
        assigned(0x1100, 0, "PC=800 cycles+1");
        assigned(0x117F, 0, "PC=1002 SR=1 R15=2001 [2000]=1201 cycles+3");
        assigned(0x1180, 0, "PC=2 SR=1 cycles+1");
        assigned(0x11BF, 0, "PC=1002 SR=1 R15=2002 [2000]=3 cycles+3");
        assigned(0x1200, 0, "PC=1002 SP=3fe [3fe]=1002 cycles+3");
        assigned(0x127F, 0, "PC=1002 SP=3fe R15=2001 [3fe]=3 cycles+5");
        assigned(0x1280, 0, "PC=1002 SP=3fe [3fe]=1002 cycles+4");
        assigned(0x12BF, 0, "PC=1202 SP=3fe R15=2002 [3fe]=1002 cycles+5");
        assigned(0x1300, 0, "PC=3000 SP=404 SR=107 cycles+5");
        assigned(0x2000, 0, "PC=1002 cycles+2");
        assigned(0x3FFF, 0, "cycles+2");
        assigned(0x4000, 0, "PC=1002 cycles+2");
        assigned(0xFFFF, 0, "PC=1004 SR=1 R15=2001 [2010]=303 cycles+5");
    }
}
