import java.util.ArrayList;
import java.util.List;
import java.util.Random;
import java.util.function.Consumer;

/**
 * Runs of random calls on programs of random words: the class and PlainModel answer alike.
 * All the looking would go beyond the document's 512 calls: before that, a run goes on with
 * a new object on which its calls so far are done again.
 */
public final class ModelTest {
    private static final int RUNS = 2500;
    // Of so many runs one is looked at for bytes that changed although nothing wrote them.
    private static final int WHOLE_MEMORY = 49;
    private static final int CALLS_OF_A_MOVE = 30;
    private static final int[] TELLING = {0, 1, 2, 0x7F, 0x80, 0xFF, 0x7FFF, 0x8000, 0xFFFF, 0x9999, 0x0130, 0x0138, 0x013A};

    private static final List<Consumer<Computer>> done = new ArrayList<>();
    private static Computer cpu;
    private static PlainModel model;
    private static Random random;
    private static String name;

    public static void main(String[] args) {
        for (int run = 0; run < RUNS; run++) {
            random = new Random(run);
            cpu = new Computer();
            done.clear();
            model = new PlainModel();
            name = "run " + run;
            load(run % 4);
            int steps = 20 + random.nextInt(60);
            for (int i = 0; i < steps; i++) {
                move();
            }
            sameMemory(run % WHOLE_MEMORY == 0);
        }
        Bench.finish();
    }

    private static void keepTo512Calls(int callsToCome) {
        if (cpu.calls() + callsToCome > Computer.MOST_CALLS) {
            cpu = new Computer();
            for (Consumer<Computer> call : done) {
                call.accept(cpu);
            }
        }
    }

    private static void poke(int address, int b) {
        Bench.due(name + ": poke", cpu.poke(address, b), true);
        done.add(c -> c.poke(address, b));
        model.poke(address, b);
    }

    private static void pokeWord(int address, int word) {
        poke(address & 0xFFFF, word & 255);
        poke((address + 1) & 0xFFFF, word >> 8);
    }

    /** Registers set by instructions, then random ones, here and there near the multiplier. */
    private static void load(int kind) {
        int at = kind == 3 ? 0x00F0 : 0x1000;
        pokeWord(0xFFFE, at + random.nextInt(2));
        for (int i = 0; i < 5; i++) {
            pokeWord(0xFFE0 + 2 * random.nextInt(14), at + random.nextInt(80));
        }
        int registers = kind == 0 ? 0 : 6;
        for (int i = 0; i < registers; i++) {
            pokeWord(at, 0x4030 | (i == 0 ? 1 : i == 5 ? 2 : 4 + random.nextInt(12)));
            int value = kind == 2 && i < 5 ? 0x0128 + random.nextInt(0x20) : word();
            pokeWord(at + 2, i == 5 ? value & ~0x10 : value);
            at += 4;
        }
        for (int i = 0; i < 30; i++) {
            pokeWord(at, instruction());
            at += 2;
        }
        init();
    }

    private static void init() {
        cpu.init();
        done.add(Computer::init);
        model.init();
    }

    private static int word() {
        return random.nextInt(3) == 0 ? TELLING[random.nextInt(TELLING.length)] : random.nextInt(65536);
    }

    private static int instruction() {
        switch (random.nextInt(10)) {
            case 0: return word();
            case 1: return 0x2000 + random.nextInt(8) * 0x400 + (random.nextInt(16) - 4 & 0x3FF);
            case 2: case 3: return 0x1000 + random.nextInt(0x301);
            case 4: return 0x0128 + random.nextInt(0x20);
            default: return 0x4000 + random.nextInt(0xC000);
        }
    }

    private static void move() {
        keepTo512Calls(CALLS_OF_A_MOVE);
        int what = random.nextInt(40);
        if (what == 0) {
            int line = random.nextInt(14);
            Bench.due(name + ": raise", cpu.raise(line), true);
            done.add(c -> c.raise(line));
            model.lines[line] = true;
        } else if (what == 1) {
            int n = random.nextInt(20);
            Bench.due(name + ": run(" + n + ")", cpu.run(n), model.run(n));
            done.add(c -> c.run(n));
        } else if (what == 2) {
            poke(random.nextInt(2) == 0 ? 0x130 + random.nextInt(16) : random.nextInt(65536), random.nextInt(256));
        } else if (what == 3 && random.nextInt(8) == 0) {
            init();
        } else {
            int told = model.step();
            Bench.due(name + ": step", cpu.step(), told);
            done.add(Computer::step);
            if (told != 0) {
                pokeWord(model.r[0], instruction());
            }
        }
        sameState();
    }

    private static void sameState() {
        boolean same = cpu.cyclesOf() == model.cycles && cpu.pending() == model.pending() && cpu.mode() == model.mode;
        for (int i = 0; i < 16; i++) {
            same = same && cpu.reg(i) == model.r[i];
        }
        Bench.due(name + ": registers, cycles, lines, mode are the model's", same, true);
    }

    private static void sameMemory(boolean whole) {
        boolean same = true;
        for (int address = 0; address < 65536; address++) {
            boolean multiplier = address >= 0x130 && address < 0x140;
            if (whole || multiplier || model.written.get(address)) {
                keepTo512Calls(1);
                same = same && cpu.peek(address) == model.peek(address);
            }
        }
        Bench.due(name + ": memory is the model's", same, true);
    }
}
