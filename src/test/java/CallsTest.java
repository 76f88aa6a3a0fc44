/** Promises 1 to 4, 6 to 8, 10 and 11 as calls: ordinary arguments, edges and wrong ones. */
public final class CallsTest {
    // No object is asked beyond the 512 calls that the document promises.
    private static final int BLOCK = 128;
    private static final int[] WRONG_ADDRESSES = {-1, -2, 65536, 65537, Integer.MAX_VALUE, Integer.MIN_VALUE};
    private static final int[] WRONG_BYTES = {-1, 256, 257, Integer.MAX_VALUE, Integer.MIN_VALUE};

    public static void main(String[] args) {
        newObject();
        init();
        poke();
        peek();
        run();
        reg();
        raise();
        mode();
        Bench.finish();
    }

    private static void newObject() {
        Computer cpu = new Computer();
        for (int address = 0; address < 65536; address++) {
            cpu = address % BLOCK == 0 ? new Computer() : cpu;
            Bench.due("new: peek(" + address + ")", cpu.peek(address), 0);
        }
        cpu = new Computer();
        allClear("new", cpu);
        Bench.due("new: reg(0)", cpu.reg(0), 0);
        Bench.due("new: step", cpu.step(), 2);
        Computer other = new Computer();
        cpu.poke(7, 7);
        cpu.raise(3);
        Bench.due("another object's memory", other.peek(7), 0);
        Bench.due("another object's lines", other.pending(), 0);
    }

    private static void allClear(String when, Computer cpu) {
        for (int i = 1; i < 16; i++) {
            Bench.due(when + ": reg(" + i + ")", cpu.reg(i), 0);
        }
        for (int address = 0x130; address < 0x140; address++) {
            Bench.due(when + ": multiplier's byte " + address, cpu.peek(address), 0);
        }
        Bench.due(when + ": pending", cpu.pending(), 0);
        Bench.due(when + ": cyclesOf", cpu.cyclesOf(), 0);
        Bench.due(when + ": mode", cpu.mode(), 0);
    }

    private static void init() {
        Bench bench = new Bench("init").set(4, 0xFFFF);
        for (int i = 5; i < 16; i++) {
            bench.set(i, 0x1111 + i);
        }
        bench.set(Bench.SP, 0x500).set(Bench.SR, 0xFF00);
        bench.start(Bench.two(Bench.MOV, 0, 4, 1, 2), 0x0136, Bench.two(Bench.MOV, 0, 4, 1, 2), 0x0138);
        bench.step(0).step(0);
        Computer cpu = bench.cpu;
        cpu.raise(13);
        cpu.poke(0x13E, 5);
        cpu.poke(0x200, 0x77);
        bench.word(0xFFFE, 0x3457);
        Bench.due("mode ahead of init", cpu.mode(), 3);
        cpu.init();
        allClear("init", cpu);
        Bench.due("init: PC is the vector, but for bit 0", cpu.reg(0), 0x3456);
        Bench.due("init: memory stays", cpu.peek(0x200), 0x77);
        Bench.due("init: the vector stays", cpu.peek(0xFFFE), 0x57);
    }

    private static void poke() {
        for (int first = 0; first < 65536; first += BLOCK) {
            pokeBlock(first);
        }
        Computer cpu = new Computer();
        cpu.poke(0, 11);
        cpu.poke(65535, 22);
        cpu.poke(600, 33);
        for (int address : WRONG_ADDRESSES) {
            Bench.due("poke(" + address + ", 1)", cpu.poke(address, 1), false);
        }
        for (int b : WRONG_BYTES) {
            Bench.due("poke(600, " + b + ")", cpu.poke(600, b), false);
        }
        Bench.due("a wrong byte changes nothing", cpu.peek(600), 33);
        Bench.due("a wrong byte changes nothing beside", cpu.peek(601), 0);
        Bench.due("a wrong address changes nothing at 65535", cpu.peek(65535), 22);
        Bench.due("a wrong address changes nothing at 0", cpu.peek(0), 11);
        Bench.due("a wrong address changes nothing at 1", cpu.peek(1), 0);
        Bench.due("poke(65535, 255)", cpu.poke(65535, 255), true);
        Bench.due("peek(65535)", cpu.peek(65535), 255);
        Bench.due("poke(0, 0)", cpu.poke(0, 0), true);
        Bench.due("peek(0)", cpu.peek(0), 0);
        Bench.due("no step, no cycles", cpu.cyclesOf(), 0);
    }

    private static int byteFor(int address) {
        return (address * 7 + (address >> 8)) & 255;
    }

    private static void pokeBlock(int first) {
        Computer cpu = new Computer();
        for (int address = first; address < first + BLOCK; address++) {
            Bench.due("poke(" + address + ")", cpu.poke(address, byteFor(address)), true);
        }
        for (int address = first; address < first + BLOCK; address++) {
            boolean one = address >= 0x130 && address < 0x138;
            Bench.due("poked byte " + address, cpu.peek(address), byteFor(one ? 0x136 + (address & 1) : address));
        }
        Bench.due("poke works nothing: mode", cpu.mode(), 0);
    }

    private static void peek() {
        Computer cpu = new Computer();
        cpu.poke(0, 1);
        cpu.poke(65535, 200);
        for (int address : WRONG_ADDRESSES) {
            Bench.due("peek(" + address + ")", cpu.peek(address), LowPowerCpu.NONE);
        }
        Bench.due("peek(0)", cpu.peek(0), 1);
        Bench.due("peek(65535)", cpu.peek(65535), 200);
    }

    private static void run() {
        int jumpToItself = 0x3FFF;
        Computer endless = new Bench("run").start(jumpToItself).cpu;
        for (int n : new int[] {-1, 2001, Integer.MAX_VALUE, Integer.MIN_VALUE}) {
            Bench.due("run(" + n + ")", endless.run(n), LowPowerCpu.NONE);
        }
        Bench.due("a wrong n does nothing", endless.cyclesOf(), 0);
        Bench.due("run(0)", endless.run(0), 0);
        Bench.due("run(0) does nothing", endless.cyclesOf(), 0);
        Bench.due("run(1)", endless.run(1), 0);
        Bench.due("run(1) is a step", endless.cyclesOf(), 2);
        Bench.due("run(2000)", endless.run(2000), 0);
        Bench.due("run(2000) is 2000 steps", endless.cyclesOf(), 4002);

        Computer stopping = new Bench("run to 2").start(0x4315, 0x5315, 0x5315, 0x0000).cpu;
        Bench.due("run(2) ends ahead of the 2", stopping.run(2), 0);
        Bench.due("run(2): R5", stopping.reg(5), 2);
        Bench.due("run(9) ends at the 2", stopping.run(9), 2);
        Bench.due("run(9): R5", stopping.reg(5), 3);
        Bench.due("run(9): PC", stopping.reg(0), Bench.CODE + 6);
        Bench.due("run(0) at a 2", stopping.run(0), 0);
        Bench.due("run(1) at a 2", stopping.run(1), 2);

        Computer sleeping = new Bench("run to CPUOFF").start(0x4315, 0xD032, 0x0010, 0x5315).cpu;
        Bench.due("run(2) up to CPUOFF", sleeping.run(2), 0);
        Bench.due("run(50) with CPUOFF", sleeping.run(50), 1);
        Bench.due("run(50): R5", sleeping.reg(5), 1);
        Bench.due("run(0) with CPUOFF", sleeping.run(0), 0);

        Computer woken = new Bench("run, interrupted").set(Bench.SP, 0x400).set(Bench.SR, Bench.GIE | Bench.OFF)
                .words(0xFFE4, 0x2000).words(0x2000, 0x4315, 0x0000).start().cpu;
        woken.raise(2);
        Bench.due("an interrupt wakes it", woken.run(10), 2);
        Bench.due("woken: R5", woken.reg(5), 1);
        Bench.due("woken: PC", woken.reg(0), 0x2002);
    }

    private static void reg() {
        Bench bench = new Bench("reg");
        for (int i = 4; i < 16; i++) {
            bench.set(i, 0xFF00 + i);
        }
        bench.set(Bench.SP, 0xFFFF).set(3, 0x1234).set(Bench.SR, 0xFFC7).start();
        for (int i = 4; i < 16; i++) {
            bench.reg(i, 0xFF00 + i);
        }
        bench.reg(0, Bench.CODE).reg(1, 0xFFFF).reg(2, 0xFFC7).reg(3, 0);
        for (int i : new int[] {-1, 16, 17, 256, Integer.MAX_VALUE, Integer.MIN_VALUE}) {
            Bench.due("reg(" + i + ")", bench.cpu.reg(i), LowPowerCpu.NONE);
        }
    }

    private static void raise() {
        Computer cpu = new Computer();
        int due = 0;
        for (int line = 13; line >= 0; line--) {
            Bench.due("raise(" + line + ")", cpu.raise(line), true);
            due |= 1 << line;
            Bench.due("pending", cpu.pending(), due);
            Bench.due("raise(" + line + ") again", cpu.raise(line), true);
            Bench.due("pending", cpu.pending(), due);
        }
        cpu.init();
        for (int line : new int[] {-1, 14, 15, 31, 32, 33, -32, Integer.MAX_VALUE, Integer.MIN_VALUE}) {
            Bench.due("raise(" + line + ")", cpu.raise(line), false);
            Bench.due("pending after a wrong line", cpu.pending(), 0);
        }
    }

    private static void mode() {
        for (int m = 0; m < 4; m++) {
            Bench bench = new Bench("mode " + m).start(Bench.two(Bench.MOV, 1, 3, 1, 2), 0x130 + 2 * m,
                    Bench.two(Bench.MOV, 1, 3, 1, 2), 0x138, Bench.two(Bench.MOV, 1, 3, 1, 2), 0x13A);
            for (int i = 0; i < 3; i++) {
                bench.step(0);
                Bench.due("mode", bench.cpu.mode(), m);
            }
            bench.cpu.poke(0x130 + 2 * ((m + 1) & 3), 1);
            Bench.due("mode after poke", bench.cpu.mode(), m);
        }
    }
}
