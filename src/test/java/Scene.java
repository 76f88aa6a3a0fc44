import java.util.ArrayList;
import java.util.List;
import java.util.function.Consumer;
import java.util.function.ToIntFunction;

/**
 * A computer brought to a state, and one call after the other on it, each looked at whole: what it
 * answers, and everything that it changes, the 65,536 bytes among it, as a text such as
 * "PC=1002 SP=3fe [3fe]=1234 cycles+3" (hexadecimal but for the cycles; words at even addresses).
 *
 * So much can't be looked at within 512 calls on one object: the same calls are done on many.
 */
final class Scene {
    static final int CODE = 0x1000;
    private static final int WORDS = 32768;
    private static final int FIRST_ONE = 0x130 / 2;
    private static final String[] REGISTERS = {"PC", "SP", "SR", "R3", "R4", "R5", "R6", "R7", "R8", "R9", "R10",
        "R11", "R12", "R13", "R14", "R15"};
    private static final String[] MULTIPLIER = {"ONE", "ONE", "ONE", "ONE", "TWO", "LOW", "HIGH", "EXTRA"};

    private final List<int[]> settings = new ArrayList<>();
    private final List<Consumer<Computer>> doings = new ArrayList<>();
    private int base = CODE;
    private State now;

    /** All that can be seen of a computer. */
    private static final class State {
        private final int[] registers = new int[16];
        private final int[] words = new int[WORDS];
        private int cycles;
        private int pending;
        private int mode;
    }

    /** Where the program stands. */
    Scene at(int address) {
        base = address;
        return this;
    }

    /** Done by instructions right ahead of the program, in the order of the calls: SR with CPUOFF belongs last. */
    Scene set(int register, int value) {
        settings.add(new int[] {register, value});
        return this;
    }

    Scene then(Consumer<Computer> doing) {
        doings.add(doing);
        now = null;
        return this;
    }

    Scene word(int address, int value) {
        return then(c -> c.word(address, value));
    }

    Scene code(int... words) {
        for (int i = 0; i < words.length; i++) {
            word(base + 2 * i, words[i]);
        }
        return this;
    }

    Scene raise(int... lines) {
        for (int line : lines) {
            then(c -> c.raise(line));
        }
        return this;
    }

    Scene step(int answer, String effect) {
        return gives("step()", Computer::step, answer, effect);
    }

    Scene run(int n, int answer, String effect) {
        return gives("run(" + n + ")", c -> c.run(n), answer, effect);
    }

    Scene poke(int address, int b, boolean answer, String effect) {
        return gives("poke(" + address + ", " + b + ")", c -> c.poke(address, b) ? 1 : 0, answer ? 1 : 0, effect);
    }

    /** The call answers and changes what is due, and has been done from here on. */
    Scene gives(String call, ToIntFunction<Computer> done, int answer, String effect) {
        State before = now == null ? look() : now;
        Computer computer = build();
        Bench.due(call + " answer", done.applyAsInt(computer), answer);
        doings.add(done::applyAsInt);
        now = look();
        Bench.due(call + " effect", change(before, now), effect);
        return this;
    }

    /** A new computer in this scene's state, for what a test asks of it by itself. */
    Computer build() {
        Computer computer = new Computer();
        int start = (base - 4 * settings.size()) & 0xFFFF;
        computer.word(0xFFFE, start);
        for (int i = 0; i < settings.size(); i++) {
            computer.word(start + 4 * i, 0x4030 | settings.get(i)[0]);
            computer.word(start + 4 * i + 2, settings.get(i)[1]);
        }
        computer.init();
        for (int i = 0; i < settings.size(); i++) {
            computer.step();
        }
        for (Consumer<Computer> doing : doings) {
            doing.accept(computer);
        }
        return computer;
    }

    private State look() {
        State state = new State();
        Computer computer = build();
        for (int i = 0; i < 16; i++) {
            state.registers[i] = computer.reg(i);
        }
        state.cycles = computer.cyclesOf();
        state.pending = computer.pending();
        state.mode = computer.mode();
        for (int i = 0; i < WORDS; i++) {
            if (computer.calls() + 2 > Computer.MOST_CALLS) {
                computer = build();
            }
            state.words[i] = computer.peek(2 * i) | computer.peek(2 * i + 1) << 8;
        }
        return state;
    }

    private static String change(State before, State after) {
        StringBuilder text = new StringBuilder();
        for (int i = 0; i < 16; i++) {
            if (before.registers[i] != after.registers[i]) {
                text.append(' ').append(REGISTERS[i]).append('=').append(Integer.toHexString(after.registers[i]));
            }
        }
        for (int i = 0; i < WORDS; i++) {
            boolean anotherOne = i > FIRST_ONE && i < FIRST_ONE + 4;
            // ONE is told by its first place; another of its places only if it doesn't tell the same.
            boolean told = anotherOne ? after.words[i] != after.words[FIRST_ONE] : before.words[i] != after.words[i];
            if (told) {
                boolean multiplier = i >= FIRST_ONE && i < FIRST_ONE + 8;
                String place = multiplier ? MULTIPLIER[i - FIRST_ONE] : "[" + Integer.toHexString(2 * i) + "]";
                text.append(' ').append(place).append('=').append(Integer.toHexString(after.words[i]));
            }
        }
        if (before.cycles != after.cycles) {
            text.append(" cycles+").append(after.cycles - before.cycles);
        }
        if (before.pending != after.pending) {
            text.append(" pending=").append(Integer.toHexString(after.pending));
        }
        if (before.mode != after.mode) {
            text.append(" mode=").append(after.mode);
        }
        return text.length() == 0 ? "nothing" : text.substring(1);
    }
}
