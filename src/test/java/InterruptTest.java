/** Promises 5, 8 and 10: interrupts and CPUOFF. */
public final class InterruptTest {
    private static final int GIE = Bench.GIE, OFF = Bench.OFF;

    public static void main(String[] args) {
        everyLine();
        highestFirst();
        onlyWithGie();
        wakes();
        statusKept();
        thereAndBack();
        stackOnTheVectors();
        stackOnTheMultiplier();
        Bench.finish();
    }

    private static void everyLine() {
        for (int line = 0; line < 14; line++) {
            Bench bench = new Bench("line " + line).set(1, 0x400).set(2, GIE | 0x107);
            for (int k = 0; k < 16; k++) {
                bench.word(0xFFE0 + 2 * k, 0x3001 + 0x10 * k);
            }
            bench.start(0x4315);
            bench.cpu.raise(line);
            bench.step(0).reg(0, 0x3000 + 0x10 * line).reg(1, 0x3FC).reg(2, 0).reg(5, 0)
                    .at(0x3FE, Bench.CODE).at(0x3FC, GIE | 0x107).cycles(6);
            Bench.due("pending", bench.cpu.pending(), 0);
        }
    }

    private static void highestFirst() {
        Bench bench = new Bench("highest").set(1, 0x400).set(2, GIE)
                .word(0xFFE0, 0x2000).word(0xFFEA, 0x2100).word(0xFFFA, 0x2200)
                .words(0x2000, Bench.RETI).words(0x2100, Bench.RETI).words(0x2200, Bench.RETI).start(0x4315);
        bench.cpu.raise(0);
        bench.cpu.raise(13);
        bench.cpu.raise(5);
        bench.step(0).reg(0, 0x2200);
        Bench.due("without 13", bench.cpu.pending(), 0x21);
        bench.step(0).reg(0, Bench.CODE).reg(2, GIE).step(0).reg(0, 0x2100);
        Bench.due("without 5", bench.cpu.pending(), 1);
        bench.step(0).step(0).reg(0, 0x2000);
        Bench.due("none", bench.cpu.pending(), 0);
        bench.step(0).step(0).reg(5, 1).reg(1, 0x400).cycles(3 * 11 + 1);
    }

    private static void onlyWithGie() {
        Bench bench = new Bench("no GIE").set(1, 0x400).set(2, 0).word(0xFFE6, 0x2000).start(0x4315, 0xD232, 0x4316);
        bench.cpu.raise(3);
        bench.step(0).reg(5, 1);
        Bench.due("pending", bench.cpu.pending(), 8);
        bench.step(0).reg(2, GIE);
        Bench.due("pending still", bench.cpu.pending(), 8);
        bench.step(0).reg(0, 0x2000).reg(6, 0).at(0x3FE, Bench.CODE + 4);
    }

    private static void wakes() {
        Bench asleep = new Bench("asleep").set(2, OFF | GIE).start(0x4315);
        asleep.step(1).step(1).reg(0, Bench.CODE).reg(5, 0).reg(2, OFF | GIE).cycles(0);
        Bench deaf = new Bench("asleep, no GIE").set(2, OFF).start(0x4315);
        deaf.cpu.raise(13);
        deaf.step(1).reg(0, Bench.CODE).cycles(0);
        Bench.due("pending", deaf.cpu.pending(), 0x2000);
        Bench woken = new Bench("woken").set(1, 0x400).set(2, OFF | GIE).word(0xFFE2, 0x2000).word(0x2000, 0).start(0x4315);
        woken.cpu.raise(1);
        woken.step(0).reg(0, 0x2000).reg(2, 0).at(0x3FC, OFF | GIE).step(2);
    }

    private static void statusKept() {
        Bench bench = new Bench("bit 6 stays").set(1, 0x400).set(2, 0xFFFF).word(0xFFE0, 0x2000).start();
        bench.cpu.raise(0);
        bench.step(0).reg(2, 0x40).at(0x3FC, 0xFFFF);
        Bench clear = new Bench("bit 6 is not set").set(1, 0x400).set(2, 0xFFBF).word(0xFFE0, 0x2000).start();
        clear.cpu.raise(0);
        clear.step(0).reg(2, 0).at(0x3FC, 0xFFBF);
    }

    private static void thereAndBack() {
        Bench bench = new Bench("there and back").set(1, 0).set(2, GIE | OFF | 0x40).word(0xFFF0, 0x2000)
                .words(0x2000, 0xC0B1, 0x0010, 0x0000, Bench.RETI).start(0x4315);
        bench.cpu.raise(8);
        bench.step(0).reg(1, 0xFFFC).reg(2, 0x40).step(0).step(0)
                .reg(0, Bench.CODE).reg(1, 0).reg(2, GIE | 0x40).step(0).reg(5, 1);
    }

    private static void stackOnTheVectors() {
        Bench bench = new Bench("the vector is read last").set(1, 0xFFFC).set(2, GIE).word(0xFFFA, 0x2000).start();
        bench.cpu.raise(13);
        bench.step(0).at(0xFFFA, Bench.CODE).at(0xFFF8, GIE).reg(0, Bench.CODE);
    }

    private static void stackOnTheMultiplier() {
        Bench bench = new Bench("an interrupt works the multiplier").set(1, 0x13A).set(4, 3).set(2, GIE)
                .word(0xFFE0, 0x2000).start(Bench.two(Bench.MOV, 0, 4, 1, 2), 0x130);
        bench.step(0);
        bench.cpu.raise(0);
        bench.step(0).at(0x13A, 3 * (Bench.CODE + 4)).at(0x138, Bench.CODE + 4).at(0x130, GIE);
        Bench.due("mode of 0x136", bench.cpu.mode(), 3);
    }
}
