/** The sentences of part III that name a boundary case, each with a test of its own. */
public final class PartThreeSentencesTest extends Sentences {
    private static final int INCREASE_R5 = two(ADD, 1, 3, 0, 5);

    public static void main(String[] args) throws ReflectiveOperationException {
        holdAll(PartThreeSentencesTest.class);
    }

    private static Scene ready(int status) {
        return scene().set(SP, 0x400).set(SR, status).code(INCREASE_R5, INCREASE_R5);
    }

    @Says(where = "Part III", value = "If GIE is 1 and a LINE is PENDING")
    static void gieAndALine() {
        String done = "PC=1002 R5=1 cycles+1";
        ready(0).step(0, done);
        ready(GIE).step(0, done);
        ready(0xFFE7).raise(0, 13).step(0, "PC=1002 SR=fee0 R5=1 cycles+1");
        ready(GIE).word(0xFFE0, 0x3000).raise(0).step(0, "PC=3000 SP=3fc SR=0 [3fc]=8 [3fe]=1000 cycles+6 pending=0");
        scene().set(SP, 0x400).code(two(BIS, 3, 2, 0, SR), INCREASE_R5).word(0xFFE0, 0x3000).raise(0)
                .step(0, "PC=1002 SR=8 cycles+1")
                .step(0, "PC=3000 SP=3fc SR=0 [3fc]=8 [3fe]=1002 cycles+6 pending=0");
        scene().set(SP, 0x400).set(SR, GIE).code(two(BIC, 3, 2, 0, SR), INCREASE_R5).step(0, "PC=1002 SR=0 cycles+1")
                .then(c -> c.raise(0)).step(0, "PC=1004 R5=1 cycles+1");
    }

    @Says(where = "Part III", value = "the highest of these")
    static void theHighest() {
        for (int highest = 0; highest < 14; highest++) {
            Scene scene = ready(GIE).word(0xFFE0 + 2 * highest, 0x3000);
            for (int line = highest; line >= 0; line--) {
                scene.raise(line);
            }
            int left = (1 << highest) - 1;
            scene.step(0, "PC=3000 SP=3fc SR=0 [3fc]=8 [3fe]=1000 cycles+6 pending=" + hex(left));
        }
        Scene all = ready(GIE).word(0x3000, RETI);
        for (int line = 0; line < 14; line++) {
            all.raise(line).word(0xFFE0 + 2 * line, 0x3000);
        }
        for (int line = 13; line >= 0; line--) {
            String stack = line == 13 ? " [3fc]=8 [3fe]=1000" : "";
            all.step(0, "PC=3000 SP=3fc SR=0" + stack + " cycles+6 pending=" + hex((1 << line) - 1));
            all.step(0, "PC=1000 SP=400 SR=8 cycles+5");
        }
        all.step(0, "PC=1002 R5=1 cycles+1");
    }

    @Says(where = "Part III", value = "SP is 2 less, PC is written at SP; SP 2 less, SR is written at SP")
    static void stack() {
        String tail = " cycles+6 pending=0";
        scene().set(SP, 0x400).set(SR, 0xFFFF).word(0x400, 0x1111).word(0x3FA, 0x2222).word(0xFFE0, 0x3000).raise(0)
                .step(0, "PC=3000 SP=3fc SR=40 [3fc]=ffff [3fe]=1000" + tail);
        scene().set(SP, 0x0000).set(SR, GIE).word(0xFFE0, 0x3000).raise(0).step(0, "PC=3000 SP=fffc SR=0 [fffc]=8 [fffe]=1000" + tail);
        scene().set(SP, 0x0002).set(SR, GIE).word(0xFFE0, 0x3000).raise(0).step(0, "PC=3000 SP=fffe SR=0 [0]=1000 [fffe]=8" + tail);
        scene().set(SP, 0x0003).set(SR, GIE).word(0xFFE0, 0x3000).raise(0).step(0, "PC=3000 SP=ffff SR=0 [0]=1000 [fffe]=8" + tail);
        scene().set(SP, 0xFFFF).set(SR, GIE).word(0xFFE0, 0x3000).raise(0).step(0, "PC=3000 SP=fffb SR=0 [fffa]=8 [fffc]=1000" + tail);
        scene().set(SP, 0x0140).set(SR, GIE).word(0xFFE0, 0x3000).raise(0).step(0, "PC=3000 SP=13c SR=0 HIGH=8" + tail);
    }

    @Says(where = "Part III", value = "it is not PENDING any more")
    static void notPendingAnyMore() {
        ready(GIE).word(0xFFFA, 0x3000).word(0x3000, RETI).raise(13)
                .step(0, "PC=3000 SP=3fc SR=0 [3fc]=8 [3fe]=1000 cycles+6 pending=0")
                .step(0, "PC=1000 SP=400 SR=8 cycles+5").step(0, "PC=1002 R5=1 cycles+1")
                .then(c -> c.raise(13)).step(0, "PC=3000 SP=3fc SR=0 [3fe]=1002 cycles+6 pending=0");
        ready(GIE).word(0xFFFA, 0x3000).raise(13, 12, 0)
                .step(0, "PC=3000 SP=3fc SR=0 [3fc]=8 [3fe]=1000 cycles+6 pending=1001");
        ready(GIE).word(0xFFE0, 0x3000).raise(0).step(0, "PC=3000 SP=3fc SR=0 [3fc]=8 [3fe]=1000 cycles+6 pending=0");
    }

    @Says(where = "Part III", value = "of SR bit 6 alone stays")
    static void bit6() {
        for (int k = 0; k < 16; k++) {
            int status = 1 << k | GIE;
            ready(status).word(0xFFE0, 0x3000).raise(0).step(0, "PC=3000 SP=3fc SR=" + (k == 6 ? "40" : "0")
                    + " [3fc]=" + hex(status) + " [3fe]=1000 cycles+6 pending=0");
        }
        ready(0xFFFF).word(0xFFE0, 0x3000).raise(0).step(0, "PC=3000 SP=3fc SR=40 [3fc]=ffff [3fe]=1000 cycles+6 pending=0");
        ready(0xFFBF).word(0xFFE0, 0x3000).raise(0).step(0, "PC=3000 SP=3fc SR=0 [3fc]=ffbf [3fe]=1000 cycles+6 pending=0");
    }

    @Says(where = "Part III", value = "PC is the word at 0xFFE0 + 2 * LINE.")
    static void vectors() {
        for (int line = 0; line < 14; line++) {
            Scene scene = ready(GIE);
            for (int k = -1; k < 16; k++) {
                scene.word(0xFFE0 + 2 * k, 0x3001 + 0x10 * k);
            }
            scene.raise(line).step(0, "PC=" + hex(0x3000 + 0x10 * line) + " SP=3fc SR=0 [3fc]=8 [3fe]=1000 cycles+6 pending=0");
        }
        scene().set(SP, 0xFFE2).set(SR, GIE).word(0xFFE0, 0x3000).raise(0)
                .step(0, "SP=ffde SR=0 [ffde]=8 [ffe0]=1000 cycles+6 pending=0");
        scene().set(SP, 0xFFFE).set(SR, GIE).word(0xFFFA, 0x3000).raise(13)
                .step(0, "PC=8 SP=fffa SR=0 [fffa]=8 [fffc]=1000 cycles+6 pending=0");
    }

    @Says(where = "Part III", value = "Else, if CPUOFF is 1: nothing.")
    static void off() {
        ready(OFF).step(1, "nothing").step(1, "nothing");
        ready(OFF | GIE).step(1, "nothing");
        ready(0xFFF7).raise(0, 13).step(1, "nothing");
        scene().set(SP, 0x400).set(SR, OFF).code(0x0000).step(1, "nothing");
        ready(OFF | GIE).word(0xFFE0, 0x3000).word(0x3000, INCREASE_R5).raise(0)
                .step(0, "PC=3000 SP=3fc SR=0 [3fc]=18 [3fe]=1000 cycles+6 pending=0").step(0, "PC=3002 R5=1 cycles+1");
        ready(OFF | GIE).word(0xFFE0, 0x3000).word(0x3000, RETI).raise(0)
                .step(0, "PC=3000 SP=3fc SR=0 [3fc]=18 [3fe]=1000 cycles+6 pending=0")
                .step(0, "PC=1000 SP=400 SR=18 cycles+5").step(1, "nothing");
    }

    @Says(where = "Part III", value = "if that is UNASSIGNED nothing is.")
    static void unassigned() {
        for (int word : new int[] {0x0000, 0x0FFF, 0x10C4, 0x10F4, 0x11F4, 0x12B4 | 0x40, 0x1301, 0x13FF, 0x1400, 0x1FFF}) {
            scene().set(SP, 0x400).set(4, 0x2000).set(SR, 0xFFE7).word(0x2000, 0x1234).code(word, INCREASE_R5).raise(3)
                    .step(2, "nothing").step(2, "nothing");
        }
        scene().at(0xFFFE).code(0x0000).step(2, "nothing");
        scene().at(0x0138).code(0x0000).step(2, "nothing");
        scene().set(SP, 0x400).set(SR, GIE).code(0x0000).word(0xFFE0, 0x3000).raise(0)
                .step(0, "PC=3000 SP=3fc SR=0 [3fc]=8 [3fe]=1000 cycles+6 pending=0").step(2, "nothing");
    }
}
