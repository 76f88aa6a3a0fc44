/** A LowPowerCpu whose calls are counted: of an object's calls after the 512th the document promises nothing. */
final class Computer {
    static final int MOST_CALLS = 512;

    private final LowPowerCpu cpu = new LowPowerCpu();
    private int calls = 0;

    private LowPowerCpu called() {
        calls++;
        if (calls > MOST_CALLS) {
            throw new IllegalStateException("the test asks an object beyond its 512th call");
        }
        return cpu;
    }

    int calls() {
        return calls;
    }

    void init() {
        called().init();
    }

    boolean poke(int address, int b) {
        return called().poke(address, b);
    }

    int peek(int address) {
        return called().peek(address);
    }

    int step() {
        return called().step();
    }

    int run(int n) {
        return called().run(n);
    }

    int reg(int i) {
        return called().reg(i);
    }

    boolean raise(int line) {
        return called().raise(line);
    }

    int cyclesOf() {
        return called().cyclesOf();
    }

    int pending() {
        return called().pending();
    }

    int mode() {
        return called().mode();
    }

    /** Pokes a word, byte by byte; the address may go round. */
    void word(int address, int value) {
        poke(address & 0xFFFF, value & 0xFF);
        poke((address + 1) & 0xFFFF, value >> 8);
    }
}
