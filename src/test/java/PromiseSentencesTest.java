import java.util.ArrayList;
import java.util.List;

/** The sentences of promises 1 to 11 (and of the 512 calls) that name a boundary case, each with a test of its own. */
public final class PromiseSentencesTest extends Sentences {
    private static final int JUMP_BACK = 0x3FFE;

    public static void main(String[] args) throws ReflectiveOperationException {
        holdAll(PromiseSentencesTest.class);
    }

    @Says(where = "What it is", value = "An object is used for at most 512 calls after it has been made")
    static void atMost512Calls() {
        Computer c = new Computer();
        c.word(0xFFFE, CODE);
        c.word(CODE, two(ADD, 1, 3, 0, 5));
        c.word(CODE + 2, JUMP_BACK);
        c.init();
        for (int i = 0; i < 504; i++) {
            due("step " + i, c.step(), 0);
        }
        due("the 512th call", c.reg(5), 252);
        due("calls", c.calls(), Computer.MOST_CALLS);
    }

    @Says(where = "Promise 1", value = "Memory is 0; then as init().")
    static void promise1() {
        Computer used = busy().build();
        Computer c = new Computer();
        for (int address = 0; address < 65536; address++) {
            c = address % 256 == 0 ? new Computer() : c;
            due("peek(" + address + ")", c.peek(address), 0);
        }
        for (int i = 0; i < 16; i++) {
            due("reg(" + i + ")", c.reg(i), 0);
        }
        due("pending", c.pending(), 0);
        due("cyclesOf", c.cyclesOf(), 0);
        due("mode", c.mode(), 0);
        due("the other object keeps what it has", used.peek(0x7FFE), 0x17);
    }

    @Says(where = "Promise 2", value = "Registers, LINES, the multiplier's words, MODE and CYCLES are 0")
    static void promise2AllIsZero() {
        Scene scene = scene().set(SP, 0xFFFF);
        StringBuilder effect = new StringBuilder("PC=fc4 SP=0 SR=0");
        for (int i = 4; i < 16; i++) {
            scene.set(i, 0x8001);
            effect.append(" R").append(i).append("=0");
        }
        scene.set(SR, 0xFFEF).set(3, 0xFFFF).code(two(MOV, 0, 4, 1, 2), 0x0136, two(MOV, 0, 4, 1, 2), 0x0138)
                .then(Computer::step).then(Computer::step).word(0x013A, 0x1111).word(0x013C, 0x2222).word(0x013E, 0x3333)
                .raise(0, 5, 13);
        effect.append(" ONE=0 TWO=0 LOW=0 HIGH=0 EXTRA=0 cycles+-38 pending=0 mode=0");
        scene.gives("init()", PromiseSentencesTest::init, 0, effect.toString());
        scene.gives("init() again", PromiseSentencesTest::init, 0, "nothing");
    }

    private static int init(Computer c) {
        c.init();
        return 0;
    }

    @Says(where = "Promise 2", value = "PC is the word at 0xFFFE.")
    static void promise2Vector() {
        int[][] due = {{0x0000, 0x0000}, {0x0001, 0x0000}, {0x0002, 0x0002}, {0x00FF, 0x00FE}, {0x0100, 0x0100},
            {0x7FFF, 0x7FFE}, {0x8000, 0x8000}, {0xFFFE, 0xFFFE}, {0xFFFF, 0xFFFE}};
        for (int[] row : due) {
            Computer c = busy().build();
            c.word(0xFFFE, row[0]);
            due("PC ahead of init", c.reg(PC), CODE + 8);
            c.init();
            due("PC with 0x" + hex(row[0]) + " at 0xFFFE", c.reg(PC), row[1]);
        }
    }

    @Says(where = "Promise 2", value = "Memory stays.")
    static void promise2MemoryStays() {
        busy().gives("init()", PromiseSentencesTest::init, 0,
                "PC=1c1a SP=0 SR=0 R4=0 R15=0 ONE=0 TWO=0 LOW=0 HIGH=0 EXTRA=0 cycles+-16 pending=0 mode=0");
    }

    @Says(where = "Promise 3", value = "The byte at an address (0 .. 65535) becomes a byte (0 .. 255): true.")
    static void promise3Edges() {
        int[] addresses = {0, 1, 0x12F, 0x140, 0x7FFF, 0x8000, 65534, 65535};
        for (int address : addresses) {
            for (int value : new int[] {0, 1, 127, 128, 254, 255}) {
                boolean even = address % 2 == 0;
                int word = even ? 0x5A00 | value : value << 8 | 0x5A;
                String place = "[" + hex(address & 0xFFFE) + "]=";
                scene().word(address & 0xFFFE, 0x5A5A).poke(address, value, true, place + hex(word));
            }
        }
        scene().word(0x2000, 0x5A5A).poke(0x2000, 0x5A, true, "nothing");
    }

    @Says(where = "Promise 3", value = "False, changing nothing, for others.")
    static void promise3Refused() {
        Scene scene = busy();
        for (int address : NO_ADDRESSES) {
            scene.poke(address, 0, false, "nothing");
            scene.poke(address, 255, false, "nothing");
        }
        int[] noBytes = {-1, -2, -128, -255, -256, 256, 257, 511, 512, 65535, 65536, Integer.MAX_VALUE, Integer.MIN_VALUE};
        scene = busy();
        for (int value : noBytes) {
            scene.poke(0x8000, value, false, "nothing");
            scene.poke(0x0138, value, false, "nothing");
        }
        scene.poke(0, 256, false, "nothing").poke(65535, -1, false, "nothing");
        scene.poke(-1, -1, false, "nothing").poke(65536, 256, false, "nothing");
    }

    @Says(where = "Promise 3", value = "(Of the multiplier's words the byte there alone; nothing is worked.)")
    static void promise3Multiplier() {
        String[] names = {"ONE", "ONE", "ONE", "ONE", "TWO", "LOW", "HIGH", "EXTRA"};
        int[] words = {0x1111, 0x1111, 0x1111, 0x1111, 0x2222, 0x3333, 0x4444, 0x5555};
        for (int m = 0; m < 4; m++) {
            for (int place = 0; place < 16; place++) {
                Scene scene = scene().set(4, 1).code(two(MOV, 0, 4, 1, 2), 0x130 + 2 * m).then(Computer::step);
                for (int i = 3; i < 8; i++) {
                    scene.word(0x130 + 2 * i, words[i]);
                }
                int word = words[place / 2];
                int changed = place % 2 == 0 ? (word & 0xFF00) | 0xA7 : (word & 0xFF) | 0xA700;
                scene.poke(0x130 + place, 0xA7, true, names[place / 2] + "=" + hex(changed));
            }
        }
    }

    @Says(where = "Promise 4", value = "The byte at an address, 0 .. 65535 (the multiplier's words have bytes, too).")
    static void promise4Edges() {
        Scene scene = busy();
        int[][] due = {{0, 0x11}, {1, 0x12}, {0x12E, 0x13}, {0x12F, 0x14}, {0x140, 0x15}, {0x141, 0x16}, {0x7FFF, 0x18},
            {0x8000, 0x19}, {65534, 0x1B}, {65535, 0x1C}, {0x130, 0x34}, {0x131, 0x12}, {0x132, 0x34}, {0x133, 0x12},
            {0x134, 0x34}, {0x135, 0x12}, {0x136, 0x34}, {0x137, 0x12}, {0x138, 0x34}, {0x139, 0x12}, {0x13A, 0x90},
            {0x13B, 0x5A}, {0x13C, 0x4B}, {0x13D, 0x01}, {0x13E, 0x66}, {0x13F, 0x55}};
        Computer c = scene.build();
        for (int[] row : due) {
            due("peek(" + row[0] + ")", c.peek(row[0]), row[1]);
        }
        scene.gives("peek(65535)", x -> x.peek(65535), 0x1C, "nothing").gives("peek(0)", x -> x.peek(0), 0x11, "nothing");
        Computer bytes = scene().word(0x8000, 0xFF80).build();
        due("a byte has no sign", bytes.peek(0x8001), 255);
        due("a byte has no sign", bytes.peek(0x8000), 128);
    }

    @Says(where = "Promise 4", value = "NONE for others.")
    static void promise4None() {
        Scene scene = busy();
        for (int address : NO_ADDRESSES) {
            scene.gives("peek(" + address + ")", c -> c.peek(address), NONE, "nothing");
        }
    }

    @Says(where = "Promise 5", value = "A STEP: 0")
    static void promise5Done() {
        scene().code(two(MOV, 1, 3, 0, 5), 0x0000).step(0, "PC=1002 R5=1 cycles+1").step(2, "nothing");
        scene().code(two(MOV, 0, 3, 0, 3)).step(0, "PC=1002 cycles+1");
        scene().code(HERE).step(0, "cycles+2");
        scene().code(two(BIS, 3, 0, 0, SR), OFF).step(0, "PC=1004 SR=10 cycles+2").step(1, "nothing");
        scene().set(SP, 0x400).set(SR, GIE | OFF).word(0xFFE0, 0x3000).word(0x3000, 0x0000).raise(0)
                .step(0, "PC=3000 SP=3fc SR=0 [3fc]=18 [3fe]=1000 cycles+6 pending=0").step(2, "nothing");
    }

    @Says(where = "Promise 5", value = "1 if CPUOFF let nothing be done")
    static void promise5Off() {
        scene().set(SR, OFF).code(two(MOV, 1, 3, 0, 5)).step(1, "nothing").step(1, "nothing");
        scene().set(SR, OFF).code(0x0000).step(1, "nothing");
        scene().set(SR, OFF | GIE).code(two(MOV, 1, 3, 0, 5)).step(1, "nothing");
        scene().set(SR, OFF).code(two(MOV, 1, 3, 0, 5)).raise(0, 13).step(1, "nothing");
        scene().set(SR, 0xFFEF).code(two(MOV, 1, 3, 0, 5)).step(0, "PC=1002 R5=1 cycles+1");
    }

    @Says(where = "Promise 5", value = "2 if the word at PC is UNASSIGNED.")
    static void promise5Unassigned() {
        for (int word : new int[] {0x0000, 0x0FFF, 0x1301, 0x1FFF}) {
            scene().set(SR, 0x0107).code(word).step(2, "nothing").step(2, "nothing");
        }
        scene().code(0x0000).raise(0, 13).step(2, "nothing");
        scene().set(SR, GIE).code(0x0000).step(2, "nothing");
        scene().code(0x1000).step(0, "PC=800 cycles+1");
        scene().code(0x0000).then(c -> c.word(CODE, 0x4315)).step(0, "PC=1002 R5=1 cycles+1");
    }

    @Says(where = "Promise 6", value = "At most n (0 .. 2000) STEPS")
    static void promise6Steps() {
        for (int n : new int[] {1, 2, 3, 1999, 2000}) {
            scene().code(HERE).run(n, 0, "cycles+" + 2 * n);
        }
        scene().code(HERE).run(0, 0, "nothing");
        scene().code(two(ADD, 1, 3, 0, 5), JUMP_BACK).run(2000, 0, "R5=3e8 cycles+3000").run(1999, 0, "PC=1002 R5=7d0 cycles+2998");
        Scene interrupted = scene().set(SP, 0x400).set(SR, GIE).code(two(ADD, 1, 3, 0, 5)).word(0xFFE0, 0x3000).raise(0);
        interrupted.run(1, 0, "PC=3000 SP=3fc SR=0 [3fc]=8 [3fe]=1000 cycles+6 pending=0");
    }

    @Says(where = "Promise 6", value = "to the first 2: what the last one told")
    static void promise6Told() {
        scene().code(0x0000).run(1, 2, "nothing").run(2000, 2, "nothing");
        scene().code(0x4315, 0x5315, 0x0000, 0x5315).run(2, 0, "PC=1004 R5=2 cycles+2").run(1, 2, "nothing");
        scene().code(0x4315, 0x5315, 0x0000, 0x5315).run(3, 2, "PC=1004 R5=2 cycles+2");
        scene().code(0x4315, 0x5315, 0x0000, 0x5315).run(2000, 2, "PC=1004 R5=2 cycles+2");
        int[] sleeping = {0x4315, two(BIS, 3, 0, 0, SR), OFF, 0x5315};
        scene().code(sleeping).run(2, 0, "PC=1006 SR=10 R5=1 cycles+3").run(1, 1, "nothing");
        scene().code(sleeping).run(3, 1, "PC=1006 SR=10 R5=1 cycles+3");
        scene().code(sleeping).run(2000, 1, "PC=1006 SR=10 R5=1 cycles+3");
        scene().set(SR, OFF).code(0x0000).run(2000, 1, "nothing");
        scene().set(SP, 0x400).set(SR, GIE | OFF).word(0xFFFA, 0x3000).word(0x3000, 0x0000).raise(13)
                .run(2000, 2, "PC=3000 SP=3fc SR=0 [3fc]=18 [3fe]=1000 cycles+6 pending=0");
    }

    @Says(where = "Promise 6", value = "(0 if there was none)")
    static void promise6NoStep() {
        scene().code(0x0000).run(0, 0, "nothing");
        scene().set(SR, OFF).code(0x4315).run(0, 0, "nothing");
        scene().set(SR, GIE).code(0x4315).raise(13).run(0, 0, "nothing");
        scene().code(0x0000).run(1, 2, "nothing").run(0, 0, "nothing");
    }

    @Says(where = "Promise 6", value = "NONE, doing nothing, for another n.")
    static void promise6None() {
        int[] others = {-1, -2, -2000, 2001, 2002, 4000, 65536, 65537, Integer.MAX_VALUE, Integer.MIN_VALUE};
        Scene working = busy();
        Scene interrupted = scene().set(SR, GIE).code(0x4315).raise(13);
        for (int n : others) {
            working.run(n, NONE, "nothing");
            interrupted.run(n, NONE, "nothing");
        }
    }

    @Says(where = "Promise 7", value = "Register i.")
    static void promise7Edges() {
        Scene scene = scene().set(SP, 0xFF01);
        for (int i = 4; i < 16; i++) {
            scene.set(i, 0xFF00 + i);
        }
        scene.set(SR, 0xFEC7).set(3, 0xFFFF);
        Computer c = scene.build();
        int[] due = new int[16];
        for (int i = 4; i < 16; i++) {
            due[i] = 0xFF00 + i;
        }
        due[PC] = CODE;
        due[SP] = 0xFF01;
        due[SR] = 0xFEC7;
        for (int i = 0; i < 16; i++) {
            due("reg(" + i + ")", c.reg(i), due[i]);
        }
        scene.gives("reg(0)", x -> x.reg(0), CODE, "nothing").gives("reg(15)", x -> x.reg(15), 0xFF0F, "nothing");
    }

    @Says(where = "Promise 7", value = "NONE for others.")
    static void promise7None() {
        Scene scene = busy();
        for (int i : new int[] {-1, -2, -15, -16, 16, 17, 31, 32, 256, 65536, Integer.MAX_VALUE, Integer.MIN_VALUE}) {
            scene.gives("reg(" + i + ")", c -> c.reg(i), NONE, "nothing");
        }
    }

    @Says(where = "Promise 8", value = "The LINE is PENDING: true.")
    static void promise8Edges() {
        for (int line = 0; line < 14; line++) {
            int k = line;
            scene().gives("raise(" + k + ")", c -> c.raise(k) ? 1 : 0, 1, "pending=" + hex(1 << k))
                    .gives("raise(" + k + ") again", c -> c.raise(k) ? 1 : 0, 1, "nothing");
        }
        Scene scene = scene().set(SR, GIE | OFF);
        scene.gives("raise(13)", c -> c.raise(13) ? 1 : 0, 1, "pending=2000")
                .gives("raise(0)", c -> c.raise(0) ? 1 : 0, 1, "pending=2001");
    }

    @Says(where = "Promise 8", value = "False for others.")
    static void promise8False() {
        Scene scene = busy();
        List<Integer> others = new ArrayList<>(List.of(-1, -2, -13, -14, -31, -32, Integer.MAX_VALUE, Integer.MIN_VALUE));
        for (int line = 14; line < 48; line++) {
            others.add(line);
        }
        for (int line : others) {
            scene.gives("raise(" + line + ")", c -> c.raise(line) ? 1 : 0, 0, "nothing");
        }
    }

    @Says(where = "Promise 9", value = "CYCLES.")
    static void promise9() {
        due("a new object's", new Computer().cyclesOf(), 0);
        Computer c = scene().code(0x4315, two(BIS, 3, 0, 0, SR), OFF).build();
        due("ahead of the first step", c.cyclesOf(), 0);
        c.step();
        due("after a step", c.cyclesOf(), 1);
        c.poke(0x2000, 1);
        c.peek(0x2000);
        c.reg(5);
        c.raise(3);
        c.run(0);
        c.run(2001);
        due("after calls that do no step", c.cyclesOf(), 1);
        c.run(2000);
        due("CPUOFF costs nothing", c.cyclesOf(), 3);
        c.init();
        due("after init", c.cyclesOf(), 0);
        scene().code(0x0000).step(2, "nothing").gives("cyclesOf", Computer::cyclesOf, 0, "nothing");
    }

    @Says(where = "Promise 10", value = "The LINES that are PENDING: bit k for LINE k.")
    static void promise10() {
        due("of a new object", new Computer().pending(), 0);
        Scene all = scene().set(SP, 0x400);
        int due = 0;
        for (int line = 0; line < 14; line++) {
            all.raise(line);
            due += (int) Math.pow(2, line);
            due("lines 0 to " + line, all.build().pending(), due);
        }
        all.gives("all", Computer::pending, 16383, "nothing");
        due("lines 13 and 0", scene().raise(13, 0).build().pending(), 8193);
    }

    @Says(where = "Promise 11", value = "The multiplier's MODE.")
    static void promise11() {
        due("of a new object", new Computer().mode(), 0);
        for (int m = 0; m < 4; m++) {
            Scene scene = scene().code(two(MOV, 1, 3, 1, 2), 0x130 + 2 * m, two(MOV, 1, 3, 1, 2), 0x138,
                    two(MOV, 1, 3, 1, 2), 0x13A, two(MOV, 1, 3, 1, 2), 0x13C, two(MOV, 1, 3, 1, 2), 0x13E);
            for (int i = 0; i < 5; i++) {
                scene.then(Computer::step);
                scene.gives("mode", Computer::mode, m, "nothing");
            }
        }
    }
}
