/** A processor set up to stand at CODE with given registers and memory, and the counting of wrong answers. */
final class Bench {
    static final int CODE = 0x1000;
    static final int PC = 0, SP = 1, SR = 2;
    static final int C = 1, Z = 2, N = 4, GIE = 8, OFF = 16, V = 256;
    static final int MOV = 4, ADD = 5, ADDC = 6, SUBC = 7, SUB = 8, CMP = 9, DADD = 10, BIT = 11,
            BIC = 12, BIS = 13, XOR = 14, AND = 15;
    static final int RRC = 0, SWPB = 1, RRA = 2, SXT = 3, PUSH = 4, CALL = 5;
    static final int RETI = 0x1300;

    private static int wrong = 0;
    private static int asked = 0;
    private static String about = "";

    final Computer cpu = new Computer();
    final String name;
    private final java.util.ArrayList<int[]> settings = new java.util.ArrayList<>();
    private int cyclesBefore;

    Bench(String name) {
        this.name = name;
    }

    /** What the wrong answers from here on are told to be about. */
    static void about(String name) {
        about = name + ": ";
    }

    static int askedSoFar() {
        return asked;
    }

    static void due(String what, long got, long want) {
        asked++;
        if (got != want) {
            wrong++;
            System.out.println(about + what + " answered " + got + " (0x" + Long.toHexString(got) + "), due is "
                    + want + " (0x" + Long.toHexString(want) + ")");
        }
    }

    static void due(String what, String got, String want) {
        asked++;
        if (!got.equals(want)) {
            wrong++;
            System.out.println(about + what + " is " + got + ", due is " + want);
        }
    }

    static void due(String what, boolean got, boolean want) {
        due(what, got ? 1 : 0, want ? 1 : 0);
    }

    static void finish() {
        System.out.println(asked + " answers, " + wrong + " wrong");
        if (wrong != 0 || asked == 0) {
            System.exit(1);
        }
    }

    static int two(int operation, int way, int s, int memory, int d) {
        return operation << 12 | s << 8 | memory << 7 | way << 4 | d;
    }

    static int one(int operation, int way, int s) {
        return 0x1000 | operation << 7 | way << 4 | s;
    }

    /** The same instruction, of bytes. */
    static int b(int word) {
        return word | 0x40;
    }

    /** Register settings are done by instructions right ahead of CODE; SR belongs last. */
    Bench set(int register, int value) {
        settings.add(new int[] {register, value});
        return this;
    }

    Bench word(int address, int value) {
        cpu.poke(address, value & 0xFF);
        cpu.poke(address + 1, value >> 8);
        return this;
    }

    Bench words(int address, int... values) {
        for (int i = 0; i < values.length; i++) {
            word(address + 2 * i, values[i]);
        }
        return this;
    }

    Bench start(int... code) {
        words(CODE, code);
        int at = CODE - 4 * settings.size();
        word(0xFFFE, at);
        for (int[] setting : settings) {
            words(at, 0x4030 | setting[0], setting[1]);
            at += 4;
        }
        cpu.init();
        for (int i = 0; i < settings.size(); i++) {
            due(name + ": a setting", cpu.step(), 0);
        }
        due(name + ": PC at the start", cpu.reg(PC), CODE);
        cyclesBefore = cpu.cyclesOf();
        return this;
    }

    Bench step(int answer) {
        due(name + ": step", cpu.step(), answer);
        return this;
    }

    Bench reg(int register, int value) {
        due(name + ": register " + register, cpu.reg(register), value);
        return this;
    }

    Bench at(int address, int value) {
        due(name + ": word at 0x" + Integer.toHexString(address), wordAt(address), value);
        return this;
    }

    Bench cycles(int value) {
        due(name + ": cycles", cpu.cyclesOf() - cyclesBefore, value);
        return this;
    }

    int wordAt(int address) {
        return cpu.peek(address) | cpu.peek(address + 1) << 8;
    }
}
