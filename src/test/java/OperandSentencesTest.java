/** The sentences of part II on words, SOURCE and destination that name a boundary case, each with a test of its own. */
public final class OperandSentencesTest extends Sentences {
    private static final int STATUS = 0xFFEF;

    public static void main(String[] args) throws ReflectiveOperationException {
        holdAll(OperandSentencesTest.class);
    }

    @Says(where = "Part II", value = "PC is 2 more; further words (X) are taken at PC, each then 2 more.")
    static void furtherWords() {
        scene().set(4, 0x2000).set(5, 0x3000).code(two(MOV, 0, 4, 0, 5)).step(0, "PC=1002 R5=2000 cycles+1");
        scene().set(4, 0x2000).word(0x2008, 7).code(two(MOV, 1, 4, 0, 5), 8).step(0, "PC=1004 R5=7 cycles+3");
        scene().set(4, 0x2000).set(5, 0x3000).code(two(MOV, 0, 4, 1, 5), 8).step(0, "PC=1004 [3008]=2000 cycles+4");
        scene().set(4, 0x2000).set(5, 0x3000).word(0x2008, 7).code(two(MOV, 1, 4, 1, 5), 8, 6)
                .step(0, "PC=1006 [3006]=7 cycles+6");
        scene().set(5, 0x3000).code(two(MOV, 3, 0, 1, 5), 7, 6).step(0, "PC=1006 [3006]=7 cycles+5");
        scene().set(5, 0x3000).code(b(two(MOV, 3, 0, 1, 5)), 0x1207, 6).step(0, "PC=1006 [3006]=7 cycles+5");
        scene().set(5, 0x3000).word(0x3006, 0x0102).code(one(SWPB, 1, 5), 6).step(0, "PC=1004 [3006]=201 cycles+4");
        scene().set(4, 0xFFFF).code(two(CMP, 1, 2, 1, 2), 0x2000, 0x3000).step(0, "PC=1006 SR=3 cycles+6");
    }

    @Says(where = "Part II", value = "of a byte the highest bit is 7, else 15.")
    static void highestBit() {
        twoParts(ADD, true, 0, 0x0080, 0x0000, 0x0080, N);
        twoParts(ADD, false, 0, 0x0080, 0x0001, 0x0081, 0);
        twoParts(ADD, true, 0, 0x007F, 0x0001, 0x0080, N | V);
        twoParts(ADD, false, 0, 0x007F, 0x0001, 0x0080, 0);
        twoParts(ADD, false, 0, 0x8000, 0x0001, 0x8001, N);
        twoParts(ADD, true, 0, 0x8000, 0x0001, 0x0001, 0);
        twoParts(ADD, true, 0, 0x00FF, 0x0001, 0x0000, C | Z);
        twoParts(ADD, false, 0, 0x00FF, 0x0001, 0x0100, 0);
        twoParts(XOR, true, 0, 0x0080, 0x0081, 0x0001, C | V);
        twoParts(XOR, false, 0, 0x0080, 0x0081, 0x0001, C);
        onePart(RRC, true, C, 0x0000, 0x0080, N);
        onePart(RRC, false, C, 0x0000, 0x8000, N);
        onePart(RRA, true, 0, 0x0080, 0x00C0, N);
        onePart(RRA, false, 0, 0x0080, 0x0040, 0);
    }

    @Says(where = "Part II", value = "0 register s (3: the number 0).")
    static void wayZero() {
        for (int s = 4; s < 15; s++) {
            scene().set(s, 0xFE00 + s).code(two(MOV, 0, s, 0, 15)).step(0, "PC=1002 R15=" + hex(0xFE00 + s) + " cycles+1");
        }
        scene().code(two(MOV, 0, PC, 0, 5)).step(0, "PC=1002 R5=1002 cycles+1");
        scene().set(SP, 0xFFFF).code(two(MOV, 0, SP, 0, 5)).step(0, "PC=1002 R5=ffff cycles+1");
        scene().set(SR, STATUS).code(two(MOV, 0, SR, 0, 5)).step(0, "PC=1002 R5=ffef cycles+1");
        scene().set(5, 0xFFFF).set(3, 0xFFFF).code(two(MOV, 0, 3, 0, 5)).step(0, "PC=1002 R5=0 cycles+1");
    }

    @Says(where = "Part II", value = "1 s 3: the number 1. s 2: what is at X.")
    static void wayOneOfTwoAndThree() {
        scene().code(two(MOV, 1, 3, 0, 5), 0x4316).step(0, "PC=1002 R5=1 cycles+1").step(0, "PC=1004 R6=1 cycles+1");
        scene().code(b(two(MOV, 1, 3, 0, 5)), 0x4316).step(0, "PC=1002 R5=1 cycles+1");
        scene().set(SR, STATUS).word(0x2000, 0xABCD).code(two(MOV, 1, 2, 0, 5), 0x2000).step(0, "PC=1004 R5=abcd cycles+3");
        scene().set(SR, STATUS).word(0x0000, 0xABCD).code(two(MOV, 1, 2, 0, 5), 0x0000).step(0, "PC=1004 R5=abcd cycles+3");
        scene().set(SR, STATUS).word(0xFFFE, 0xABCD).code(two(MOV, 1, 2, 0, 5), 0xFFFF).step(0, "PC=1004 R5=abcd cycles+3");
        scene().set(SR, STATUS).word(0xFFFE, 0xABCD).code(b(two(MOV, 1, 2, 0, 5)), 0xFFFF).step(0, "PC=1004 R5=ab cycles+3");
    }

    @Says(where = "Part II", value = "Others: at X + register s (PC: where X itself stands).")
    static void wayOneOfOthers() {
        for (int s = 1; s < 15; s++) {
            if (s != SR && s != 3) {
                scene().set(s, 0x2000).word(0x2006, 0xABCD).code(two(MOV, 1, s, 0, 15), 6).step(0, "PC=1004 R15=abcd cycles+3");
                scene().set(s, 0x2000).word(0x1FFA, 0xABCD).code(two(MOV, 1, s, 0, 15), 0xFFFA)
                        .step(0, "PC=1004 R15=abcd cycles+3");
            }
        }
        scene().code(two(MOV, 1, PC, 0, 5), 0).step(0, "PC=1004 cycles+3");
        scene().code(two(MOV, 1, PC, 0, 5), 2, 0xABCD).step(0, "PC=1004 R5=abcd cycles+3");
        scene().code(two(MOV, 1, PC, 0, 5), 0xFFFE).step(0, "PC=1004 R5=4015 cycles+3");
        scene().code(b(two(MOV, 1, PC, 0, 5)), 0xFFFF).step(0, "PC=1004 R5=40 cycles+3");
        scene().code(one(SWPB, 1, PC), 2, 0x1234).step(0, "PC=1004 [1004]=3412 cycles+4");
    }

    @Says(where = "Part II", value = "2 s 2: the number 4; s 3: 2. Others: what is at register s.")
    static void wayTwo() {
        scene().set(SR, STATUS).code(two(MOV, 2, 2, 0, 5)).step(0, "PC=1002 R5=4 cycles+1");
        scene().set(SR, STATUS).code(b(two(MOV, 2, 2, 0, 5))).step(0, "PC=1002 R5=4 cycles+1");
        scene().code(two(MOV, 2, 3, 0, 5)).step(0, "PC=1002 R5=2 cycles+1");
        scene().code(b(two(MOV, 2, 3, 0, 5))).step(0, "PC=1002 R5=2 cycles+1");
        for (int s = 1; s < 15; s++) {
            if (s != SR && s != 3) {
                scene().set(s, 0x2000).word(0x2000, 0xABCD).code(two(MOV, 2, s, 0, 15)).step(0, "PC=1002 R15=abcd cycles+2");
                scene().set(s, 0x2001).word(0x2000, 0xABCD).code(b(two(MOV, 2, s, 0, 15))).step(0, "PC=1002 R15=ab cycles+2");
            }
        }
        scene().code(two(MOV, 2, PC, 0, 5), 0x4316).step(0, "PC=1002 R5=4316 cycles+2").step(0, "PC=1004 R6=1 cycles+1");
    }

    @Says(where = "Part II", value = "3 s 2: 8; s 3: 0xFFFF.")
    static void wayThreeNumbers() {
        scene().set(SR, STATUS).code(two(MOV, 3, 2, 0, 5)).step(0, "PC=1002 R5=8 cycles+1");
        scene().set(SR, STATUS).code(b(two(MOV, 3, 2, 0, 5))).step(0, "PC=1002 R5=8 cycles+1");
        scene().code(two(MOV, 3, 3, 0, 5)).step(0, "PC=1002 R5=ffff cycles+1");
        scene().code(b(two(MOV, 3, 3, 0, 5))).step(0, "PC=1002 R5=ff cycles+1");
    }

    @Says(where = "Part II", value = "what is at register s, which then is 1 more of bytes, 2 more of words")
    static void stepOn() {
        for (int s = 4; s < 15; s++) {
            String name = " R" + s;
            scene().set(s, 0x2000).word(0x2000, 0xABCD).code(two(MOV, 3, s, 0, 15))
                    .step(0, "PC=1002" + name + "=2002 R15=abcd cycles+2");
            scene().set(s, 0x2000).word(0x2000, 0xABCD).code(b(two(MOV, 3, s, 0, 15)))
                    .step(0, "PC=1002" + name + "=2001 R15=cd cycles+2");
            scene().set(s, 0x2001).word(0x2000, 0xABCD).code(b(two(MOV, 3, s, 0, 15)))
                    .step(0, "PC=1002" + name + "=2002 R15=ab cycles+2");
        }
        scene().set(15, 0x2000).word(0x2000, 0xABCD).code(b(two(MOV, 3, 15, 0, 5))).step(0, "PC=1002 R5=cd R15=2001 cycles+2");
        scene().set(15, 0x2001).word(0x2000, 0xABCD).code(two(MOV, 3, 15, 0, 5)).step(0, "PC=1002 R5=abcd R15=2003 cycles+2");
        scene().set(4, 0x2000).word(0x2000, 0x8042).code(b(one(RRA, 3, 4))).step(0, "PC=1002 R4=2001 [2000]=8021 cycles+3");
    }

    @Says(where = "Part II", value = "of PC and SP 2 always.")
    static void stepOnOfPcAndSp() {
        scene().set(SP, 0x2000).word(0x2000, 0xABCD).code(two(MOV, 3, SP, 0, 5)).step(0, "PC=1002 SP=2002 R5=abcd cycles+2");
        scene().set(SP, 0x2000).word(0x2000, 0xABCD).code(b(two(MOV, 3, SP, 0, 5))).step(0, "PC=1002 SP=2002 R5=cd cycles+2");
        scene().set(SP, 0x2001).word(0x2000, 0xABCD).code(b(two(MOV, 3, SP, 0, 5))).step(0, "PC=1002 SP=2003 R5=ab cycles+2");
        scene().code(two(MOV, 3, PC, 0, 5), 0xABCD).step(0, "PC=1004 R5=abcd cycles+2");
        scene().code(b(two(MOV, 3, PC, 0, 5)), 0xABCD).step(0, "PC=1004 R5=cd cycles+2");
        scene().code(b(two(ADD, 3, PC, 1, 2)), 0xABCD, 0x2001).step(0, "PC=1006 SR=4 [2000]=cd00 cycles+5");
        scene().set(SP, 0x400).code(b(one(PUSH, 3, PC)), 0xABCD).step(0, "PC=1004 SP=3fe [3fe]=cd cycles+4");
        scene().set(SP, 0x2000).word(0x2000, 0x8042).code(b(one(RRA, 3, SP))).step(0, "PC=1002 SP=2002 [2000]=8021 cycles+3");
    }

    @Says(where = "Part II", value = "Of bytes: the byte there; of a register, a number the lower one.")
    static void bytes() {
        scene().set(4, 0x12F0).set(5, 0xFFFF).code(b(two(MOV, 0, 4, 0, 5))).step(0, "PC=1002 R5=f0 cycles+1");
        scene().set(SR, 0xFE07).code(b(two(MOV, 0, SR, 0, 5))).step(0, "PC=1002 R5=7 cycles+1");
        scene().code(b(two(MOV, 0, PC, 0, 5))).step(0, "PC=1002 R5=2 cycles+1");
        scene().code(b(two(MOV, 3, 3, 1, 2)), 0x2000).step(0, "PC=1004 [2000]=ff cycles+4");
        scene().set(4, 0x12F0).word(0x2000, 0xAABB).code(b(two(MOV, 0, 4, 1, 2)), 0x2001).step(0, "PC=1004 [2000]=f0bb cycles+4");
        scene().set(4, 0x12F0).word(0x2000, 0xAABB).code(b(two(MOV, 0, 4, 1, 2)), 0x2000).step(0, "PC=1004 [2000]=aaf0 cycles+4");
        scene().set(4, 0x12F0).word(0xFFFE, 0xAABB).code(b(two(MOV, 0, 4, 1, 2)), 0xFFFF).step(0, "PC=1004 [fffe]=f0bb cycles+4");
        scene().word(0x2000, 0xAABB).code(b(two(MOV, 1, 2, 0, 5)), 0x2001).step(0, "PC=1004 R5=aa cycles+3");
        scene().set(5, 0x12FF).code(b(two(ADD, 1, 3, 0, 5))).step(0, "PC=1002 SR=3 R5=0 cycles+1");
    }

    @Says(where = "Part II", value = "1 at X + register d (PC: where X stands; 2, 3: X alone).")
    static void destinations() {
        for (int d = 1; d < 15; d++) {
            if (d != SR && d != 3) {
                scene().set(d, 0x2000).set(15, 0xABCD).code(two(MOV, 0, 15, 1, d), 6).step(0, "PC=1004 [2006]=abcd cycles+4");
                scene().set(d, 0x2000).set(15, 0xABCD).code(two(MOV, 0, 15, 1, d), 0xFFFA).step(0, "PC=1004 [1ffa]=abcd cycles+4");
            }
        }
        scene().set(4, 0xABCD).code(two(MOV, 0, 4, 1, PC), 0).step(0, "PC=1004 [1002]=abcd cycles+4");
        scene().set(4, 0xABCD).code(two(MOV, 0, 4, 1, PC), 0xFFFE).step(0, "PC=1004 [1000]=abcd cycles+4");
        scene().set(4, 0x2000).word(0x2000, 0xABCD).code(two(MOV, 1, 4, 1, PC), 0, 0).step(0, "PC=1006 [1004]=abcd cycles+6");
        scene().set(4, 0xABCD).set(SR, STATUS).code(two(MOV, 0, 4, 1, 2), 0x2000).step(0, "PC=1004 [2000]=abcd cycles+4");
        scene().set(4, 0xABCD).set(SR, STATUS).code(two(MOV, 0, 4, 1, 3), 0x2000).step(0, "PC=1004 [2000]=abcd cycles+4");
        scene().set(4, 0xABCD).code(two(MOV, 0, 4, 1, 3), 0x0000).step(0, "PC=1004 [0]=abcd cycles+4");
        scene().set(4, 0xABCD).code(two(MOV, 0, 4, 1, 2), 0xFFFF).step(0, "PC=1004 [fffe]=abcd cycles+4");
    }

    @Says(where = "Part II", value = "The SOURCE is worked out wholly, then the destination.")
    static void sourceFirst() {
        scene().set(4, 0x2000).word(0x2000, 0x11).code(two(ADD, 3, 4, 0, 4)).step(0, "PC=1002 R4=2013 cycles+2");
        scene().set(4, 0x2000).word(0x2000, 0x11).code(two(MOV, 3, 4, 0, 4)).step(0, "PC=1002 R4=11 cycles+2");
        scene().set(4, 0x2000).word(0x2000, 0x11).code(two(MOV, 3, 4, 1, 4), 2).step(0, "PC=1004 R4=2002 [2004]=11 cycles+5");
        scene().set(4, 0x2000).word(0x2000, 0x11).code(b(two(MOV, 3, 4, 1, 4)), 0).step(0, "PC=1004 R4=2001 [2000]=1111 cycles+5");
        scene().set(SP, 0x400).word(0x400, 0x11).code(two(MOV, 3, SP, 1, SP), 0).step(0, "PC=1004 SP=402 [402]=11 cycles+5");
        scene().code(two(MOV, 0, PC, 1, 2), 0x2000).step(0, "PC=1004 [2000]=1002 cycles+4");
        scene().code(two(ADD, 3, PC, 0, PC), 0x20).step(0, "PC=1024 cycles+3");
        scene().code(two(ADD, 2, PC, 0, PC), 0x20).step(0, "PC=1022 cycles+2");
        scene().word(0x1102, 0xBEEF).code(two(MOV, 1, PC, 1, PC), 0x100, 0x200).step(0, "PC=1006 [1204]=beef cycles+6");
        scene().code(two(MOV, 3, PC, 1, PC), 0xBEEF, 0x200).step(0, "PC=1006 [1204]=beef cycles+5");
        scene().set(4, 0x1000).code(two(SUB, 1, 4, 1, 4), 4, 4).step(0, "PC=1006 SR=3 [1004]=0 cycles+6");
    }
}
