/** Promises 3, 4, 5 and 11: the multiplier among the memory's places. */
public final class MultiplierTest {
    private static final int ONE = 0x130, TWO = 0x138, LOW = 0x13A, HIGH = 0x13C, EXTRA = 0x13E;

    public static void main(String[] args) {
        products();
        sums();
        writes();
        bytes();
        pokes();
        reads();
        Bench.finish();
    }

    /** MOV R4, &place; MOV R5, &TWO, with HIGH, LOW and EXTRA poked ahead. */
    private static Bench worked(String name, int place, int one, int two, long before) {
        Bench bench = new Bench(name).set(4, one).set(5, two)
                .start(Bench.two(Bench.MOV, 0, 4, 1, 2), place, Bench.two(Bench.MOV, 0, 5, 1, 2), TWO);
        bench.word(LOW, (int) (before & 0xFFFF)).word(HIGH, (int) (before >> 16)).word(EXTRA, 0x5555);
        bench.step(0).at(TWO, 0).at(EXTRA, 0x5555).step(0).at(ONE, one).at(TWO, two);
        Bench.due(name + ": mode", bench.cpu.mode(), (place - ONE) / 2);
        return bench;
    }

    private static void product(int mode, int one, int two, long before, long due, int extra) {
        worked("mode " + mode + " " + one + " * " + two, ONE + 2 * mode, one, two, before)
                .at(HIGH, (int) (due >> 16)).at(LOW, (int) (due & 0xFFFF)).at(EXTRA, extra).reg(2, 0);
    }

    private static void products() {
        product(0, 3, 5, 0x99999999L, 15, 0);
        product(0, 0xFFFF, 0xFFFF, 0xFFFFFFFFL, 0xFFFE0001L, 0);
        product(0, 0x8000, 2, 0, 0x10000L, 0);
        product(1, 3, 5, 0x99999999L, 15, 0);
        product(1, 0xFFFF, 0xFFFF, 0, 1, 0);
        product(1, 0xFFFF, 1, 0, 0xFFFFFFFFL, 0xFFFF);
        product(1, 0x8000, 0x8000, 0, 0x40000000L, 0);
        product(1, 0x8000, 0x7FFF, 0, 0xC0008000L, 0xFFFF);
        product(1, 0xFFFF, 0, 0, 0, 0);
    }

    private static void sums() {
        product(2, 3, 5, 0x00010002L, 0x00010011L, 0);
        product(2, 0xFFFF, 0xFFFF, 0x0001FFFEL, 0xFFFFFFFFL, 0);
        product(2, 0xFFFF, 0xFFFF, 0x0001FFFFL, 0, 1);
        product(2, 0xFFFF, 1, 0xFFFFFFFFL, 0x0000FFFEL, 1);
        product(3, 3, 5, 0x00010002L, 0x00010011L, 0);
        product(3, 0xFFFF, 1, 0, 0xFFFFFFFFL, 0xFFFF);
        product(3, 0xFFFF, 1, 1, 0, 0);
        product(3, 0x7FFF, 0x7FFF, 0x7FFFFFFFL, 0xBFFF0000L, 0xFFFF);
        product(3, 0x8000, 0x7FFF, 0x80000000L, 0x40008000L, 0);
    }

    private static void writes() {
        int mov = Bench.two(Bench.MOV, 0, 4, 1, 2);
        for (int m = 0; m < 4; m++) {
            new Bench("ONE stands at all four").set(4, 0xABCD).start(mov, ONE + 2 * m).step(0)
                    .at(0x130, 0xABCD).at(0x132, 0xABCD).at(0x134, 0xABCD).at(0x136, 0xABCD).at(0x138, 0).at(0x13A, 0);
        }
        new Bench("LOW").set(4, 0xABCD).start(mov, LOW).step(0).at(LOW, 0xABCD).at(HIGH, 0).at(EXTRA, 0);
        new Bench("HIGH").set(4, 0xABCD).start(mov, HIGH).step(0).at(LOW, 0).at(HIGH, 0xABCD).at(EXTRA, 0);
        new Bench("EXTRA").set(4, 0xABCD).start(mov, EXTRA).step(0).at(LOW, 0).at(HIGH, 0).at(EXTRA, 0);
        new Bench("a word at an odd place").set(4, 0xABCD).start(mov, 0x133).step(0).at(ONE, 0xABCD);
        new Bench("the places beside it").set(4, 0xABCD).start(mov, 0x12E, mov, 0x140).step(0).step(0)
                .at(0x12E, 0xABCD).at(0x140, 0xABCD).at(ONE, 0).at(EXTRA, 0);
        Bench again = worked("TWO again", 0x134, 2, 3, 0).at(LOW, 6);
        again.words(Bench.CODE + 8, Bench.two(Bench.ADD, 1, 3, 1, 2), TWO).step(0).at(TWO, 4).at(LOW, 14);
        Bench compare = worked("CMP writes nothing", 0x134, 2, 3, 0);
        compare.words(Bench.CODE + 8, Bench.two(Bench.CMP, 1, 3, 1, 2), TWO).step(0).at(TWO, 3).at(LOW, 6);
        Bench push = new Bench("PUSH into TWO").set(4, 7).set(1, 0x13A).start(mov, ONE, Bench.one(Bench.PUSH, 0, 4));
        push.step(0).step(0).at(TWO, 7).at(LOW, 49);
        Bench swap = worked("SWPB of TWO", 0x130, 1, 0x0102, 0);
        swap.words(Bench.CODE + 8, Bench.one(Bench.SWPB, 1, 2), TWO).step(0).at(TWO, 0x0201).at(LOW, 0x0201);
    }

    private static void bytes() {
        int movByte = Bench.b(Bench.two(Bench.MOV, 0, 4, 1, 2));
        Bench even = new Bench("a byte at an even place").set(4, 0x12FF).start(movByte, 0x132, movByte, TWO);
        even.word(ONE, 0xAAAA).word(TWO, 0xBBBB);
        even.step(0).at(ONE, 0x00FF).step(0).at(TWO, 0x00FF).at(LOW, 0xFE01).at(HIGH, 0).at(EXTRA, 0);
        Bench.due("mode of a byte", even.cpu.mode(), 1);
        Bench odd = new Bench("a byte at an odd place").set(4, 0x12FF).start(movByte, 0x133, movByte, TWO + 1, movByte, LOW + 1);
        odd.word(ONE, 0xAAAA).word(TWO, 0xBBBB);
        odd.step(0).step(0).step(0).at(ONE, 0xAAAA).at(TWO, 0xBBBB).at(LOW, 0).at(HIGH, 0);
        Bench.due("mode after an odd byte", odd.cpu.mode(), 0);
        new Bench("a byte into LOW").set(4, 0x12FF).start(movByte, LOW).word(LOW, 0xAAAA).step(0).at(LOW, 0x00FF);
        new Bench("a byte into EXTRA").set(4, 0x12FF).start(movByte, EXTRA).word(EXTRA, 0xAAAA).step(0).at(EXTRA, 0xAAAA);
        new Bench("PUSH.B into ONE").set(4, 0x12FF).set(1, 0x136).start(Bench.b(Bench.one(Bench.PUSH, 0, 4)))
                .word(ONE, 0xAAAA).step(0).at(ONE, 0x00FF);
    }

    private static void pokes() {
        Computer cpu = new Computer();
        Bench.due("poke", cpu.poke(0x135, 0x12), true);
        Bench.due("ONE", cpu.peek(0x131), 0x12);
        Bench.due("ONE, lower", cpu.peek(0x130), 0);
        Bench.due("poke", cpu.poke(TWO, 3), true);
        Bench.due("nothing is worked", cpu.peek(LOW) | cpu.peek(LOW + 1) | cpu.peek(HIGH) | cpu.peek(HIGH + 1), 0);
        for (int place = TWO; place <= EXTRA + 1; place++) {
            cpu.poke(place, place & 0xFF);
        }
        for (int place = TWO; place <= EXTRA + 1; place++) {
            Bench.due("poked " + place, cpu.peek(place), place & 0xFF);
        }
        Bench.due("mode", cpu.mode(), 0);
        Bench.due("poke of a wrong byte", cpu.poke(0x130, 256), false);
    }

    private static void reads() {
        Bench bench = worked("reads", 0x130, 0x1234, 0x5678, 0);
        bench.words(Bench.CODE + 8, Bench.two(Bench.MOV, 1, 2, 0, 6), LOW, Bench.b(Bench.two(Bench.MOV, 1, 2, 0, 7)), HIGH + 1);
        bench.step(0).reg(6, 0x0060).step(0).reg(7, 0x06);
        Bench code = new Bench("an instruction in ONE").word(0xFFFE, 0x130);
        code.cpu.init();
        code.word(0x130, 0x4315).step(0).reg(5, 1).reg(0, 0x132);
    }
}
