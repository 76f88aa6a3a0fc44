/** The sentences of part I's MULTIPLIER that name a boundary case, each with a test of its own. */
public final class MultiplierSentencesTest extends Sentences {
    private static final int ONE = 0x130, TWO = 0x138, LOW = 0x13A, HIGH = 0x13C, EXTRA = 0x13E;
    private static final int TO_PLACE = two(MOV, 0, 4, 1, 2);

    public static void main(String[] args) throws ReflectiveOperationException {
        holdAll(MultiplierSentencesTest.class);
    }

    private static Scene words(Scene scene, int one, int two, int low, int high, int extra) {
        return scene.word(ONE, one).word(TWO, two).word(LOW, low).word(HIGH, high).word(EXTRA, extra);
    }

    /** R4 into TWO, in a MODE, with ONE, and HIGH and LOW together as they were. */
    private static void works(int mode, int one, int two, long before, long after, int extra) {
        int low = (int) (before & 0xFFFF), high = (int) (before >> 16);
        int newLow = (int) (after & 0xFFFF), newHigh = (int) (after >> 16);
        Scene scene = scene().set(4, two).code(TO_PLACE, ONE + 2 * mode, TO_PLACE, TWO).then(Computer::step);
        words(scene, one, 0x7777, low, high, 0x5555).step(0, "PC=1008" + changed("TWO", 0x7777, two)
                + changed("LOW", low, newLow) + changed("HIGH", high, newHigh) + " EXTRA=" + hex(extra) + " cycles+4");
    }

    @Says(where = "Part I, MULTIPLIER", value = "in place of memory")
    static void inPlaceOfMemory() {
        scene().set(4, 0xABCD).code(TO_PLACE, 0x012E).step(0, "PC=1004 [12e]=abcd cycles+4");
        scene().set(4, 0xABCD).code(TO_PLACE, 0x0140).step(0, "PC=1004 [140]=abcd cycles+4");
        scene().set(4, 0xABCD).code(b(TO_PLACE), 0x012F).step(0, "PC=1004 [12e]=cd00 cycles+4");
        scene().set(4, 0xABCD).code(b(TO_PLACE), 0x0141).step(0, "PC=1004 [140]=cd00 cycles+4");
        scene().poke(0x012F, 0xCD, true, "[12e]=cd00").poke(0x0140, 0xCD, true, "[140]=cd");
        for (int other : new int[] {0x0030, 0x0038, 0x1138, 0x8138, 0x0338, 0x0538, 0x0178, 0x0120, 0x0128}) {
            words(scene(), 2, 3, 4, 5, 6).set(4, 0xABCD).code(TO_PLACE, other)
                    .step(0, "PC=1004 [" + hex(other) + "]=abcd cycles+4");
        }
    }

    @Says(where = "Part I, MULTIPLIER", value = "0x130, 0x132, 0x134, 0x136 (ONE, all four)")
    static void oneStandsAtAllFour() {
        for (int m = 0; m < 4; m++) {
            Computer c = scene().set(4, 0xABCD).code(TO_PLACE, ONE + 2 * m).then(Computer::step).build();
            for (int place = ONE; place < TWO; place += 2) {
                due("lower byte at 0x" + hex(place), c.peek(place), 0xCD);
                due("upper byte at 0x" + hex(place), c.peek(place + 1), 0xAB);
            }
            due("TWO", c.peek(TWO) | c.peek(TWO + 1), 0);
        }
    }

    @Says(where = "Part I, MULTIPLIER", value = "a word at 0x130 + 2 m (m 0 to 3): ONE is that, MODE is m.")
    static void modeIsM() {
        for (int from = 0; from < 4; from++) {
            for (int m = 0; m < 4; m++) {
                Scene scene = scene().set(4, 0xFFFF).code(TO_PLACE, ONE + 2 * from, TO_PLACE, ONE + 2 * m).then(Computer::step);
                words(scene, 0, 2, 3, 4, 5).step(0, "PC=1008 ONE=ffff cycles+4" + (from == m ? "" : " mode=" + m));
            }
        }
        scene().set(4, 0).code(TO_PLACE, 0x0136).word(ONE, 1).step(0, "PC=1004 ONE=0 cycles+4 mode=3");
    }

    @Says(where = "Part I, MULTIPLIER", value = "What instructions and interrupts write there")
    static void allThatWrites() {
        words(scene().set(SP, 0x13A).set(4, 7).code(one(PUSH, 0, 4)), 7, 0, 0, 0, 1)
                .step(0, "PC=1002 SP=138 TWO=7 LOW=31 EXTRA=0 cycles+3");
        words(scene().set(SP, 0x134).set(4, 7).code(one(PUSH, 0, 4)), 1, 0, 0, 0, 1)
                .step(0, "PC=1002 SP=132 ONE=7 cycles+3 mode=1");
        words(scene().set(SP, 0x13A).set(4, 0x3000).code(one(CALL, 0, 4)), 2, 0, 0, 0, 1)
                .step(0, "PC=3000 SP=138 TWO=1002 LOW=2004 EXTRA=0 cycles+4");
        words(scene().set(SP, 0x13C).set(SR, GIE).word(0xFFE0, 0x3000).raise(0), 2, 0, 0, 9, 1)
                .step(0, "PC=3000 SP=138 SR=0 TWO=8 LOW=10 HIGH=0 EXTRA=0 cycles+6 pending=0");
        words(scene().set(SP, 0x13A).set(SR, GIE).word(0xFFE0, 0x3000).raise(0), 2, 0, 0, 9, 1)
                .step(0, "PC=3000 SP=136 SR=0 ONE=8 TWO=1000 LOW=2000 HIGH=0 EXTRA=0 cycles+6 pending=0 mode=3");
        words(scene().code(one(SWPB, 1, 2), TWO), 2, 0x0100, 0, 0, 1).step(0, "PC=1004 TWO=1 LOW=2 EXTRA=0 cycles+4");
        words(scene().set(4, TWO).code(one(RRA, 3, 4)), 2, 0x0100, 0, 0, 1)
                .step(0, "PC=1002 R4=13a TWO=80 LOW=100 EXTRA=0 cycles+3");
        words(scene().set(4, TWO).code(two(ADD, 1, 3, 1, 4), 0), 2, 2, 0, 0, 1)
                .step(0, "PC=1004 TWO=3 LOW=6 EXTRA=0 cycles+4");
        words(scene().code(two(CMP, 1, 3, 1, 2), TWO, two(BIT, 1, 3, 1, 2), TWO), 2, 2, 0, 0, 1)
                .step(0, "PC=1004 SR=1 cycles+4").step(0, "PC=1008 SR=2 cycles+4");
    }

    @Says(where = "Part I, MULTIPLIER",
            value = "P is ONE * TWO, in MODES 0 and 2 both without a sign, in 1 and 3 both with it (16 bits).")
    static void signs() {
        int[] edges = {0, 1, 2, 0x7FFF, 0x8000, 0x8001, 0xFFFE, 0xFFFF};
        for (int one : edges) {
            for (int two : edges) {
                long plain = (long) one * two;
                int oneSigned = one > 0x7FFF ? one - 65536 : one;
                int twoSigned = two > 0x7FFF ? two - 65536 : two;
                int signed = oneSigned * twoSigned;
                long bits = signed < 0 ? signed + 4294967296L : signed;
                works(0, one, two, 0x12345678L, plain, 0);
                works(1, one, two, 0x12345678L, bits, signed < 0 ? 0xFFFF : 0);
                works(2, one, two, 0, plain, 0);
                works(3, one, two, 0, bits, signed < 0 ? 0xFFFF : 0);
            }
        }
    }

    @Says(where = "Part I, MULTIPLIER", value = "HIGH and LOW are P's 32 bits; EXTRA is 0, but 0xFFFF if P is below 0.")
    static void productAlone() {
        works(0, 0xFFFF, 0xFFFF, 0xFFFFFFFFL, 0xFFFE0001L, 0);
        works(0, 0x8000, 0xFFFF, 0, 0x7FFF8000L, 0);
        works(0, 0, 0xFFFF, 0xFFFFFFFFL, 0, 0);
        works(1, 0xFFFF, 0xFFFF, 0xFFFFFFFFL, 1, 0);
        works(1, 0xFFFF, 1, 0, 0xFFFFFFFFL, 0xFFFF);
        works(1, 0xFFFF, 0, 0xFFFFFFFFL, 0, 0);
        works(1, 0, 0x8000, 0xFFFFFFFFL, 0, 0);
        works(1, 0x8000, 0x8000, 0, 0x40000000L, 0);
        works(1, 0x8000, 0x7FFF, 0, 0xC0008000L, 0xFFFF);
        works(1, 0x7FFF, 0x7FFF, 0, 0x3FFF0001L, 0);
        works(1, 1, 0x8000, 0, 0xFFFF8000L, 0xFFFF);
    }

    @Says(where = "Part I, MULTIPLIER", value = "HIGH and LOW together become so much more (32 bits, they go round)")
    static void sumGoesRound() {
        works(2, 1, 1, 0x0000FFFFL, 0x00010000L, 0);
        works(2, 1, 1, 0xFFFFFFFFL, 0x00000000L, 1);
        works(2, 0xFFFF, 0xFFFF, 0xFFFFFFFFL, 0xFFFE0000L, 1);
        works(2, 0xFFFF, 1, 0, 0x0000FFFFL, 0);
        works(3, 1, 1, 0x0000FFFFL, 0x00010000L, 0);
        works(3, 1, 1, 0xFFFFFFFFL, 0x00000000L, 0);
        works(3, 1, 1, 0x7FFFFFFFL, 0x80000000L, 0xFFFF);
        works(3, 0xFFFF, 1, 0x00000000L, 0xFFFFFFFFL, 0xFFFF);
        works(3, 0xFFFF, 1, 0x00010000L, 0x0000FFFFL, 0);
        works(3, 0xFFFF, 1, 0x80000000L, 0x7FFFFFFFL, 0);
        works(3, 0x8000, 0x8000, 0xC0000000L, 0x00000000L, 0);
        works(3, 0x8000, 0x7FFF, 0x00000000L, 0xC0008000L, 0xFFFF);
    }

    @Says(where = "Part I, MULTIPLIER", value = "in MODE 2, 1 if they went round, else 0")
    static void extraOfMode2() {
        works(2, 0, 0, 0xFFFFFFFFL, 0xFFFFFFFFL, 0);
        works(2, 1, 1, 0xFFFFFFFEL, 0xFFFFFFFFL, 0);
        works(2, 1, 1, 0xFFFFFFFFL, 0, 1);
        works(2, 0xFFFF, 0xFFFF, 0x0001FFFEL, 0xFFFFFFFFL, 0);
        works(2, 0xFFFF, 0xFFFF, 0x0001FFFFL, 0, 1);
        works(2, 0xFFFF, 0xFFFF, 0x00020000L, 1, 1);
        works(2, 1, 1, 0x7FFFFFFFL, 0x80000000L, 0);
        Scene again = scene().set(4, 0xFFFF).code(TO_PLACE, 0x0134, TO_PLACE, TWO, TO_PLACE, TWO, two(MOV, 1, 3, 1, 2), TWO)
                .then(Computer::step);
        again.step(0, "PC=1008 TWO=ffff LOW=1 HIGH=fffe cycles+4")
                .step(0, "PC=100c LOW=2 HIGH=fffc EXTRA=1 cycles+4")
                .step(0, "PC=1010 TWO=1 LOW=1 HIGH=fffd EXTRA=0 cycles+4");
    }

    @Says(where = "Part I, MULTIPLIER", value = "in MODE 3 0xFFFF if bit 31 is 1 then, else 0.")
    static void extraOfMode3() {
        works(3, 0, 0, 0x7FFFFFFFL, 0x7FFFFFFFL, 0);
        works(3, 1, 1, 0x7FFFFFFEL, 0x7FFFFFFFL, 0);
        works(3, 1, 1, 0x7FFFFFFFL, 0x80000000L, 0xFFFF);
        works(3, 0, 0, 0x80000000L, 0x80000000L, 0xFFFF);
        works(3, 0xFFFF, 1, 0x80000001L, 0x80000000L, 0xFFFF);
        works(3, 0xFFFF, 1, 0x80000000L, 0x7FFFFFFFL, 0);
        works(3, 0xFFFF, 1, 0, 0xFFFFFFFFL, 0xFFFF);
        works(3, 0xFFFF, 1, 1, 0, 0);
        works(3, 1, 1, 0xFFFFFFFFL, 0, 0);
        works(3, 0xFFFF, 2, 1, 0xFFFFFFFFL, 0xFFFF);
    }

    @Says(where = "Part I, MULTIPLIER", value = "At 0x13A, 0x13C: LOW, HIGH are that.")
    static void lowAndHigh() {
        for (int m = 0; m < 4; m++) {
            Scene scene = scene().set(4, 0xFFFF).code(TO_PLACE, ONE + 2 * m, TO_PLACE, LOW, TO_PLACE, HIGH).then(Computer::step);
            words(scene, 2, 3, 4, 5, 6).step(0, "PC=1008 LOW=ffff cycles+4").step(0, "PC=100c HIGH=ffff cycles+4");
        }
    }

    @Says(where = "Part I, MULTIPLIER", value = "At 0x13E: nothing.")
    static void extraIsNotWritten() {
        for (int m = 0; m < 4; m++) {
            Scene scene = scene().set(4, 0xFFFF).code(TO_PLACE, ONE + 2 * m, TO_PLACE, EXTRA, b(TO_PLACE), EXTRA).then(Computer::step);
            words(scene, 2, 3, 4, 5, 6).step(0, "PC=1008 cycles+4").step(0, "PC=100c cycles+4");
        }
        words(scene().code(two(ADD, 1, 3, 1, 2), EXTRA), 2, 3, 4, 5, 0xFFFF).step(0, "PC=1004 SR=3 cycles+4");
        words(scene().code(two(BIC, 3, 3, 1, 2), EXTRA), 2, 3, 4, 5, 0xFFFF).step(0, "PC=1004 cycles+4");
        words(scene().code(one(SWPB, 1, 2), EXTRA), 2, 3, 4, 5, 0x1234).step(0, "PC=1004 cycles+4");
        words(scene().set(SP, 0x140).set(4, 0x1234).code(one(PUSH, 0, 4)), 2, 3, 4, 5, 6).step(0, "PC=1002 SP=13e cycles+3");
        words(scene().set(SP, 0x140).set(4, 0x1234).code(b(one(PUSH, 0, 4))), 2, 3, 4, 5, 6).step(0, "PC=1002 SP=13e cycles+3");
        words(scene().set(SP, 0x140).set(SR, GIE).word(0xFFE0, 0x3000).raise(0), 2, 3, 4, 5, 6)
                .step(0, "PC=3000 SP=13c SR=0 HIGH=8 cycles+6 pending=0");
    }

    @Says(where = "Part I, MULTIPLIER", value = "A byte written at an even one of these places is written as a word with upper byte 0")
    static void byteAtAnEvenPlace() {
        String[] effects = {"ONE=a7 cycles+4", "ONE=a7 cycles+4 mode=1", "ONE=a7 cycles+4 mode=2", "ONE=a7 cycles+4 mode=3",
            "TWO=a7 LOW=14e HIGH=0 EXTRA=0 cycles+4", "LOW=a7 cycles+4", "HIGH=a7 cycles+4", "cycles+4"};
        for (int i = 0; i < 8; i++) {
            words(scene().set(4, 0x12A7).code(b(TO_PLACE), ONE + 2 * i), 2, 0xFFFF, 0xFFFF, 0xFFFF, 0xFFFF)
                    .step(0, "PC=1004 " + effects[i]);
        }
        words(scene().set(4, 0x12FF).code(b(TO_PLACE), 0x0132, b(TO_PLACE), TWO), 0x8000, 0x8000, 0, 0, 5)
                .step(0, "PC=1004 ONE=ff cycles+4 mode=1").step(0, "PC=1008 TWO=ff LOW=fe01 EXTRA=0 cycles+4");
        words(scene().code(b(two(ADD, 1, 3, 1, 2)), LOW), 2, 3, 0x12FF, 5, 6).step(0, "PC=1004 SR=3 LOW=0 cycles+4");
        words(scene().code(b(two(BIS, 1, 3, 1, 2)), HIGH), 2, 3, 4, 0x1200, 6).step(0, "PC=1004 HIGH=1 cycles+4");
        words(scene().code(b(one(RRA, 1, 2)), LOW), 2, 3, 0x1280, 5, 6).step(0, "PC=1004 SR=4 LOW=c0 cycles+4");
        words(scene().set(SP, 0x13A).set(4, 0x1207).code(b(one(PUSH, 0, 4))), 2, 0xFFFF, 0, 0, 1)
                .step(0, "PC=1002 SP=138 TWO=7 LOW=e EXTRA=0 cycles+3");
    }

    @Says(where = "Part I, MULTIPLIER", value = "at an odd one nothing happens.")
    static void byteAtAnOddPlace() {
        for (int i = 0; i < 8; i++) {
            words(scene().set(4, 0x12A7).code(b(TO_PLACE), ONE + 2 * i + 1), 2, 3, 4, 5, 6).step(0, "PC=1004 cycles+4");
        }
        words(scene().code(b(two(ADD, 1, 3, 1, 2)), TWO + 1), 2, 0xFF03, 4, 5, 6).step(0, "PC=1004 SR=3 cycles+4");
        words(scene().code(b(one(RRA, 1, 2)), ONE + 3), 0x8002, 3, 4, 5, 6).step(0, "PC=1004 SR=4 cycles+4");
        words(scene().set(SP, 0x13B).set(4, 7).code(b(one(PUSH, 0, 4))), 2, 3, 4, 5, 6).step(0, "PC=1002 SP=139 cycles+3");
    }

    @Says(where = "Part I, MULTIPLIER", value = "Read, they are what they are (words, lower and upper bytes).")
    static void reads() {
        int[] due = {0x1234, 0x1234, 0x1234, 0x1234, 0x2345, 0x89AB, 0xFEDC, 0x5678};
        for (int i = 0; i < 16; i++) {
            int word = due[i / 2];
            int ofByte = i % 2 == 0 ? word & 0xFF : word >> 8;
            words(scene().code(two(MOV, 1, 2, 0, 5), ONE + i), 0x1234, 0x2345, 0x89AB, 0xFEDC, 0x5678)
                    .step(0, "PC=1004 R5=" + hex(word) + " cycles+3");
            words(scene().code(b(two(MOV, 1, 2, 0, 5)), ONE + i), 0x1234, 0x2345, 0x89AB, 0xFEDC, 0x5678)
                    .step(0, "PC=1004 R5=" + hex(ofByte) + " cycles+3");
        }
        scene().at(0x0136).code(0x4035, 0xABCD, 0x4316).step(0, "PC=13a R5=abcd cycles+2").step(0, "PC=13c R6=1 cycles+1");
        words(scene().set(SP, 0x13A).code(RETI), 0, 0, 0x0107, 0x3000, 0).step(0, "PC=3000 SP=13e SR=107 cycles+5");
    }
}
