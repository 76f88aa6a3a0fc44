/** The sentences of part I, but for the multiplier, that name a boundary case, each with a test of its own. */
public final class PartOneSentencesTest extends Sentences {
    public static void main(String[] args) throws ReflectiveOperationException {
        holdAll(PartOneSentencesTest.class);
    }

    @Says(where = "Part I", value = "MEMORY: 65,536 bytes")
    static void memory() {
        for (int k = 0; k < 16; k++) {
            int even = 1 << k & 0xFFFE;
            int value = k == 0 ? 0x9E00 : 0x9E;
            scene().poke(1 << k, 0x9E, true, "[" + hex(even) + "]=" + hex(value));
            int other = 65535 - (1 << k);
            scene().word(0xFFFE, 0).poke(other, 0x9E, true, "[" + hex(other & 0xFFFE) + "]=" + (k == 0 ? "9e" : "9e00"));
        }
    }

    @Says(where = "Part I", value = "addresses go round")
    static void addressesGoRound() {
        scene().set(4, 0xFFF0).word(0x0010, 0xABCD).code(two(MOV, 1, 4, 0, 5), 0x0020).step(0, "PC=1004 R5=abcd cycles+3");
        scene().set(4, 0x0010).word(0xFFF0, 0xABCD).code(two(MOV, 1, 4, 0, 5), 0xFFE0).step(0, "PC=1004 R5=abcd cycles+3");
        scene().set(4, 0xFFFF).word(0xFFFE, 0xABCD).code(two(MOV, 1, 4, 0, 5), 0xFFFF).step(0, "PC=1004 R5=abcd cycles+3");
        scene().set(4, 0xFFFF).word(0x0000, 0xABCD).code(b(two(MOV, 1, 4, 0, 5)), 1).step(0, "PC=1004 R5=cd cycles+3");
        scene().set(4, 0xFFFF).word(0x0000, 0xABCD).code(b(two(MOV, 1, 4, 0, 5)), 2).step(0, "PC=1004 R5=ab cycles+3");
        scene().set(4, 0xFFF0).set(5, 7).code(two(MOV, 0, 5, 1, 4), 0x0022).step(0, "PC=1004 [12]=7 cycles+4");
        scene().set(4, 0x0010).set(5, 7).word(0xFFEE, 0).code(two(MOV, 0, 5, 1, 4), 0xFFDE).step(0, "PC=1004 [ffee]=7 cycles+4");
    }

    @Says(where = "Part I", value = "addresses go round")
    static void addressesGoRoundOfPc() {
        scene().at(0xFFFC).code(0x4315).step(0, "PC=fffe R5=1 cycles+1");
        scene().at(0xFFFE).code(0x4315).step(0, "PC=0 R5=1 cycles+1");
        scene().at(0xFFFE).code(0x4035, 0x4321).step(0, "PC=2 R5=4321 cycles+2");
        scene().at(0xFFFC).code(two(MOV, 3, 0, 1, 2), 0x4321, 0x2000).step(0, "PC=2 [2000]=4321 cycles+5");
        scene().at(0xFFF0).word(0x0012, 0xABCD).code(two(MOV, 1, 0, 0, 5), 0x0020).step(0, "PC=fff4 R5=abcd cycles+3");
        scene().at(0xFFF0).code(two(MOV, 1, 3, 1, 0), 0x0020).step(0, "PC=fff4 [12]=1 cycles+4");
        scene().at(0xFFF0).code(0x3C10).step(0, "PC=12 cycles+2");
        scene().at(0xFFFE).code(0x3C00).step(0, "PC=0 cycles+2");
        scene().at(0x0000).code(0x3FFE).step(0, "PC=fffe cycles+2");
        scene().at(0x0000).code(0x3E00).step(0, "PC=fc02 cycles+2");
        scene().at(0xFFF0).set(4, 0x0020).code(two(ADD, 0, 4, 0, 0)).step(0, "PC=12 SR=1 cycles+2");
    }

    @Says(where = "Part I", value = "addresses go round")
    static void addressesGoRoundOfTheStack() {
        scene().set(SP, 0).set(4, 0x1234).code(one(PUSH, 0, 4)).step(0, "PC=1002 SP=fffe [fffe]=1234 cycles+3");
        scene().set(SP, 1).set(4, 0x1234).code(one(PUSH, 0, 4)).step(0, "PC=1002 SP=ffff [fffe]=1234 cycles+3");
        scene().set(SP, 1).set(4, 0x1234).word(0xFFFE, 0xAABB).code(b(one(PUSH, 0, 4)))
                .step(0, "PC=1002 SP=ffff [fffe]=34bb cycles+3");
        scene().set(SP, 0).set(4, 0x3000).code(one(CALL, 0, 4)).step(0, "PC=3000 SP=fffe [fffe]=1002 cycles+4");
        scene().set(SP, 0xFFFE).word(0xFFFE, 0x0107).word(0, 0x3000).code(RETI).step(0, "PC=3000 SP=2 SR=107 cycles+5");
        scene().set(SP, 0xFFFC).word(0xFFFC, 0x0107).word(0xFFFE, 0x3000).code(RETI).step(0, "PC=3000 SP=0 SR=107 cycles+5");
        scene().set(SP, 2).set(SR, GIE).word(0xFFE0, 0x3000).raise(0)
                .step(0, "PC=3000 SP=fffe SR=0 [0]=1000 [fffe]=8 cycles+6 pending=0");
        scene().set(SP, 0).set(SR, GIE).word(0xFFE0, 0x3000).raise(0)
                .step(0, "PC=3000 SP=fffc SR=0 [fffc]=8 [fffe]=1000 cycles+6 pending=0");
    }

    @Says(where = "Part I", value = "addresses go round")
    static void addressesGoRoundOfTheStepOn() {
        scene().set(4, 0xFFFE).word(0xFFFE, 0xABCD).code(two(MOV, 3, 4, 0, 5)).step(0, "PC=1002 R4=0 R5=abcd cycles+2");
        scene().set(4, 0xFFFF).word(0xFFFE, 0xABCD).code(two(MOV, 3, 4, 0, 5)).step(0, "PC=1002 R4=1 R5=abcd cycles+2");
        scene().set(4, 0xFFFF).word(0xFFFE, 0xABCD).code(b(two(MOV, 3, 4, 0, 5))).step(0, "PC=1002 R4=0 R5=ab cycles+2");
        scene().set(SP, 0xFFFE).word(0xFFFE, 0xABCD).code(two(MOV, 3, SP, 0, 5)).step(0, "PC=1002 SP=0 R5=abcd cycles+2");
        scene().set(SP, 0xFFFF).word(0xFFFE, 0xABCD).code(b(two(MOV, 3, SP, 0, 5))).step(0, "PC=1002 SP=1 R5=ab cycles+2");
    }

    @Says(where = "Part I", value = "A WORD at an address (bit 0 of which doesn't count): the byte there, and above it the next byte.")
    static void wordAtAnOddAddress() {
        for (int odd = 0; odd < 2; odd++) {
            scene().set(4, 0x2000 + odd).word(0x2000, 0xABCD).word(0x2002, 0x1111).code(two(MOV, 2, 4, 0, 5))
                    .step(0, "PC=1002 R5=abcd cycles+2");
            scene().set(4, 0xFFFE + odd).word(0xFFFE, 0xABCD).word(0, 0x1111).code(two(MOV, 2, 4, 0, 5))
                    .step(0, "PC=1002 R5=abcd cycles+2");
            scene().word(0x2000, 0xABCD).word(0x2002, 0x1111).code(two(MOV, 1, 2, 0, 5), 0x2000 + odd)
                    .step(0, "PC=1004 R5=abcd cycles+3");
            scene().set(4, 0x1234).word(0x2002, 0x1111).code(two(MOV, 0, 4, 1, 2), 0x2000 + odd)
                    .step(0, "PC=1004 [2000]=1234 cycles+4");
            scene().set(4, 0x1234).word(0xFFFE, 0).code(two(MOV, 0, 4, 1, 2), 0xFFFE + odd)
                    .step(0, "PC=1004 [fffe]=1234 cycles+4");
            scene().set(4, 0x2000 + odd).word(0x2000, 0xABCD).code(one(SWPB, 3, 4))
                    .step(0, "PC=1002 R4=" + hex(0x2002 + odd) + " [2000]=cdab cycles+3");
            scene().set(4, 0x1234).code(two(MOV, 0, 4, 1, 2), 0x0132 + odd).step(0, "PC=1004 ONE=1234 cycles+4 mode=1");
        }
    }

    @Says(where = "Part I", value = "A WORD at an address (bit 0 of which doesn't count): the byte there, and above it the next byte.")
    static void wordAtAnOddSp() {
        scene().set(SP, 0x403).set(4, 0x1234).code(one(PUSH, 0, 4)).step(0, "PC=1002 SP=401 [400]=1234 cycles+3");
        scene().set(SP, 0x403).set(4, 0x3000).code(one(CALL, 0, 4)).step(0, "PC=3000 SP=401 [400]=1002 cycles+4");
        scene().set(SP, 0x401).word(0x400, 0x0107).word(0x402, 0x3000).code(RETI).step(0, "PC=3000 SP=405 SR=107 cycles+5");
        scene().set(SP, 0x405).set(SR, GIE).word(0xFFE0, 0x3000).raise(0)
                .step(0, "PC=3000 SP=401 SR=0 [400]=8 [402]=1000 cycles+6 pending=0");
    }

    @Says(where = "Part I", value = "REGISTERS 0 to 15 of 16 bits")
    static void registersOf16Bits() {
        for (int i = 1; i < 16; i++) {
            if (i != SR && i != 3) {
                scene().set(i, 0xFFFF).code(two(ADD, 1, 3, 0, i)).step(0, i == SP ? "PC=1002 SP=0 SR=3 cycles+1"
                        : "PC=1002 SR=3 R" + i + "=0 cycles+1");
                scene().set(i, 0).code(two(SUB, 1, 3, 0, i)).step(0, i == SP ? "PC=1002 SP=ffff SR=4 cycles+1"
                        : "PC=1002 SR=4 R" + i + "=ffff cycles+1");
            }
        }
    }

    @Says(where = "Part I", value = "0 is PC (its bit 0 is 0, whatever is written)")
    static void pcIsEven() {
        scene().set(4, 0xFFFF).code(two(MOV, 0, 4, 0, 0)).step(0, "PC=fffe cycles+2");
        scene().set(4, 0x0001).code(two(MOV, 0, 4, 0, 0)).step(0, "PC=0 cycles+2");
        scene().set(4, 0x12FF).code(b(two(MOV, 0, 4, 0, 0))).step(0, "PC=fe cycles+2");
        scene().set(4, 0x0001).code(two(ADD, 0, 4, 0, 0)).step(0, "PC=1002 cycles+2");
        scene().code(two(BIS, 1, 3, 0, 0)).step(0, "PC=1002 cycles+2");
        scene().code(two(XOR, 3, 3, 0, 0)).step(0, "PC=effc SR=5 cycles+2");
        scene().code(two(SUB, 1, 3, 0, 0)).step(0, "SR=1 cycles+2");
        scene().code(one(RRA, 0, 0)).step(0, "PC=800 cycles+1");
        scene().set(SR, C).code(one(RRC, 0, 0)).step(0, "PC=8800 SR=4 cycles+1");
        scene().at(0x1100).code(one(SWPB, 0, 0)).step(0, "PC=210 cycles+1");
        scene().set(SP, 0x400).set(4, 0x2345).code(one(CALL, 0, 4)).step(0, "PC=2344 SP=3fe [3fe]=1002 cycles+4");
        scene().set(SP, 0x400).word(0x402, 0x2345).code(RETI).step(0, "PC=2344 SP=404 cycles+5");
        scene().set(SP, 0x400).word(0x400, 0x2345).code(two(MOV, 3, SP, 0, 0)).step(0, "PC=2344 SP=402 cycles+3");
        scene().set(SP, 0x400).set(SR, GIE).word(0xFFE0, 0x3001).raise(0)
                .step(0, "PC=3000 SP=3fc SR=0 [3fc]=8 [3fe]=1000 cycles+6 pending=0");
        Computer c = scene().word(0xFFFE, 0xFFFF).build();
        c.init();
        due("PC by init", c.reg(PC), 0xFFFE);
    }

    @Says(where = "Part I", value = "0 is PC (its bit 0 is 0, whatever is written)")
    static void flagsAreOfWhatIsWrittenToPc() {
        scene().set(4, 0xEFFF).code(two(ADD, 0, 4, 0, 0)).step(0, "PC=0 SR=1 cycles+2");
        scene().set(4, 0xEFFE).code(two(ADD, 0, 4, 0, 0)).step(0, "PC=0 SR=3 cycles+2");
    }

    @Says(where = "Part I", value = "3 is 0 always")
    static void register3() {
        int[][] flags = {{MOV, 0}, {ADD, N}, {ADDC, N}, {SUBC, 0}, {SUB, 0}, {CMP, 0}, {DADD, N}, {BIT, Z}, {BIC, 0},
            {BIS, 0}, {XOR, C | N}, {AND, Z}};
        for (int[] row : flags) {
            scene().set(4, 0x8421).code(two(row[0], 0, 4, 0, 3)).step(0, "PC=1002" + changed("SR", 0, row[1]) + " cycles+1");
        }
        scene().set(4, 0x8421).code(b(two(BIS, 0, 4, 0, 3))).step(0, "PC=1002 cycles+1");
        scene().set(4, 0x2000).word(0x2000, 0xABCD).code(two(MOV, 2, 4, 0, 3)).step(0, "PC=1002 cycles+2");
        scene().set(SR, C).code(one(RRC, 0, 3)).step(0, "PC=1002 SR=4 cycles+1");
        scene().code(one(RRA, 3, 3)).step(0, "PC=1002 SR=5 cycles+1");
    }

    @Says(where = "Part I", value = "all others keep what is written")
    static void otherBitsOfSr() {
        for (int k = 0; k < 16; k++) {
            int bit = 1 << k;
            if (bit != OFF) {
                scene().set(4, bit).code(two(MOV, 0, 4, 0, SR)).step(0, "PC=1002 SR=" + hex(bit) + " cycles+1");
            }
            if ((bit & (FLAGS | OFF)) == 0) {
                scene().set(SR, bit | V | N).code(two(CMP, 0, 4, 0, 4), two(DADD, 1, 3, 0, 5), one(RRA, 0, 5))
                        .step(0, "PC=1002 SR=" + hex(bit | C | Z) + " cycles+1")
                        .step(0, "PC=1004 SR=" + hex(bit) + " R5=2 cycles+1")
                        .step(0, "PC=1006 R5=1 cycles+1");
            }
        }
        scene().set(SP, 0x400).word(0x400, 0xFFFF).word(0x402, CODE).code(RETI)
                .step(0, "SP=404 SR=ffff cycles+5").step(1, "nothing");
    }

    @Says(where = "Part I", value = "LINES 0 to 13, each PENDING or not.")
    static void pendingOrNot() {
        scene().set(SP, 0x400).set(SR, GIE).word(0xFFEA, 0x3000).word(0x3000, RETI).code(0x4315).raise(5, 5, 5)
                .step(0, "PC=3000 SP=3fc SR=0 [3fc]=8 [3fe]=1000 cycles+6 pending=0")
                .step(0, "PC=1000 SP=400 SR=8 cycles+5").step(0, "PC=1002 R5=1 cycles+1");
    }

    @Says(where = "Part I", value = "CYCLES, modulo 2^30.",
            outOfReach = "2^30 cycles can't be reached within 512 calls on an object (512 runs of 2000 steps of 6 cycles are"
            + " 6,144,000), so that CYCLES go round no test shows; held is that up to some five million none is lost")
    static void cyclesUpToTheMost() {
        Scene scene = scene();
        int[] loop = new int[31];
        for (int i = 0; i < 10; i++) {
            loop[3 * i] = two(MOV, 1, 2, 1, 2);
            loop[3 * i + 1] = 0x2000;
            loop[3 * i + 2] = 0x2002;
        }
        loop[30] = 0x3C00 | (-31 & 0x3FF);
        Computer c = scene.code(loop).build();
        int steps = 0;
        while (c.calls() < Computer.MOST_CALLS - 1) {
            due("run(2000)", c.run(2000), 0);
            steps += 2000;
        }
        int due = steps / 11 * 62 + steps % 11 * 6;
        due("the most that was reached is above 2^22", due > 1 << 22, true);
        due("cyclesOf()", c.cyclesOf(), due);
    }
}
