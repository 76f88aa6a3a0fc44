/** Promise 5, ONE PART, RETI, jumps and words that are UNASSIGNED. */
public final class OnePartTest {
    private static final int C = Bench.C, Z = Bench.Z, N = Bench.N, V = Bench.V, ALL = C | Z | N | V;

    public static void main(String[] args) {
        changes();
        places();
        pushes();
        calls();
        returns();
        jumps();
        unassigned();
        Bench.finish();
    }

    private static void change(String name, int word, int before, int x, int result, int after) {
        new Bench(name).set(5, x).set(Bench.SR, before).start(word | 5)
                .step(0).reg(5, result).reg(Bench.SR, after).reg(Bench.PC, Bench.CODE + 2);
    }

    private static void changes() {
        int rrc = Bench.one(Bench.RRC, 0, 0), rra = Bench.one(Bench.RRA, 0, 0);
        change("RRC with C", rrc, C | V | Z, 0x0002, 0x8001, N);
        change("RRC without C", rrc, ALL & ~C, 0x8001, 0x4000, C);
        change("RRC to 0", rrc, 0, 1, 0, C | Z);
        change("RRC.B with C", Bench.b(rrc), C, 0xFF02, 0x0081, N);
        change("RRC.B without C", Bench.b(rrc), V, 0xFF01, 0, C | Z);
        change("RRA", rra, ALL, 0x8003, 0xC001, C | N);
        change("RRA above 0", rra, ALL, 0x4002, 0x2001, 0);
        change("RRA to 0", rra, V, 0x0001, 0, C | Z);
        change("RRA of 0xFFFF", rra, 0, 0xFFFF, 0xFFFF, C | N);
        change("RRA.B", Bench.b(rra), 0, 0x1280, 0x00C0, N);
        change("RRA.B", Bench.b(rra), 0, 0xFF01, 0, C | Z);
        change("SWPB", Bench.one(Bench.SWPB, 0, 0), ALL, 0x1234, 0x3412, ALL);
        change("SWPB", Bench.one(Bench.SWPB, 0, 0), 0, 0x0080, 0x8000, 0);
        change("SXT down", Bench.one(Bench.SXT, 0, 0), V, 0x1280, 0xFF80, C | N);
        change("SXT up", Bench.one(Bench.SXT, 0, 0), ALL, 0xFF7F, 0x007F, C);
        change("SXT of 0", Bench.one(Bench.SXT, 0, 0), ALL, 0xFF00, 0, Z);
    }

    private static void places() {
        int swap = Bench.SWPB;
        new Bench("X(R4)").set(4, 0x200).word(0x210, 0x1234).start(Bench.one(swap, 1, 4), 0x10)
                .step(0).at(0x210, 0x3412).reg(0, Bench.CODE + 4).reg(4, 0x200);
        new Bench("&X").word(0x210, 0x1234).set(2, 0x0100).start(Bench.one(swap, 1, 2), 0x210).step(0).at(0x210, 0x3412);
        new Bench("X(PC)").word(Bench.CODE + 0x22, 0x1234).start(Bench.one(swap, 1, 0), 0x20)
                .step(0).at(Bench.CODE + 0x22, 0x3412);
        new Bench("@R4").set(4, 0x200).word(0x200, 0x1234).start(Bench.one(swap, 2, 4)).step(0).at(0x200, 0x3412).reg(4, 0x200);
        new Bench("@R4+").set(4, 0x200).words(0x200, 0x1234, 0x5678).start(Bench.one(swap, 3, 4))
                .step(0).at(0x200, 0x3412).at(0x202, 0x5678).reg(4, 0x202);
        new Bench("RRA.B @R4+").set(4, 0x201).words(0x200, 0x8244, 0x5678).start(Bench.b(Bench.one(Bench.RRA, 3, 4)))
                .step(0).at(0x200, 0xC144).at(0x202, 0x5678).reg(4, 0x202);
        new Bench("#n is changed where it stands").start(Bench.one(swap, 3, 0), 0x1234)
                .step(0).at(Bench.CODE + 2, 0x3412).reg(0, Bench.CODE + 4);
        new Bench("RRC of SR: flags, then the result").set(2, 0x0103).start(Bench.one(Bench.RRC, 0, 2)).step(0).reg(2, 0x8081);
        new Bench("SXT of SR").set(2, 0x0080).start(Bench.one(Bench.SXT, 0, 2)).step(0).reg(2, 0xFF80);
        new Bench("SWPB of PC").start(Bench.one(swap, 0, 0)).step(0).reg(0, 0x0210);
        int[][] numbers = {{3, 0, 0, Z}, {3, 1, 0, C | Z}, {3, 2, 1, 0}, {3, 3, 0, C | N}, {2, 2, 0, 0}, {2, 3, 0, 0}};
        for (int[] row : numbers) {
            new Bench("RRA of a number, register " + row[0] + " way " + row[1]).start(Bench.one(Bench.RRA, row[1], row[0]))
                    .step(0).reg(3, 0).reg(2, row[3]).reg(0, Bench.CODE + 2).at(0, 0).at(2, 0).at(4, 0).at(8, 0);
        }
    }

    private static void pushes() {
        new Bench("PUSH").set(1, 0x400).set(4, 0x1234).set(2, 0x0107).start(Bench.one(Bench.PUSH, 0, 4))
                .step(0).reg(1, 0x3FE).at(0x3FE, 0x1234).at(0x400, 0).reg(2, 0x0107);
        new Bench("PUSH.B").set(1, 0x400).set(4, 0x1234).word(0x3FE, 0xABCD).start(Bench.b(Bench.one(Bench.PUSH, 0, 4)))
                .step(0).reg(1, 0x3FE).at(0x3FE, 0xAB34);
        new Bench("PUSH.B at an odd SP").set(1, 0x401).set(4, 0x1234).word(0x3FE, 0xABCD)
                .start(Bench.b(Bench.one(Bench.PUSH, 0, 4))).step(0).reg(1, 0x3FF).at(0x3FE, 0x34CD);
        new Bench("PUSH at an odd SP").set(1, 0x401).set(4, 0x1234).start(Bench.one(Bench.PUSH, 0, 4))
                .step(0).reg(1, 0x3FF).at(0x3FE, 0x1234);
        new Bench("PUSH SP").set(1, 0x400).start(Bench.one(Bench.PUSH, 0, 1)).step(0).reg(1, 0x3FE).at(0x3FE, 0x400);
        new Bench("PUSH @SP+").set(1, 0x400).word(0x400, 0x1234).start(Bench.one(Bench.PUSH, 3, 1))
                .step(0).reg(1, 0x400).at(0x400, 0x1234).at(0x3FE, 0);
        new Bench("PUSH #n").set(1, 0x400).start(Bench.one(Bench.PUSH, 3, 0), 0xBEEF)
                .step(0).at(0x3FE, 0xBEEF).reg(0, Bench.CODE + 4);
        new Bench("PUSH #8").set(1, 0x400).start(Bench.one(Bench.PUSH, 3, 2)).step(0).at(0x3FE, 8);
        new Bench("PUSH goes round").set(1, 0).set(4, 0x1234).start(Bench.one(Bench.PUSH, 0, 4)).step(0)
                .reg(1, 0xFFFE).at(0xFFFE, 0x1234);
    }

    private static void calls() {
        new Bench("CALL R4").set(1, 0x400).set(4, 0x2345).set(2, 0x0107).start(Bench.one(Bench.CALL, 0, 4))
                .step(0).reg(0, 0x2344).reg(1, 0x3FE).at(0x3FE, Bench.CODE + 2).reg(2, 0x0107);
        new Bench("CALL #n").set(1, 0x400).start(Bench.one(Bench.CALL, 3, 0), 0x3000)
                .step(0).reg(0, 0x3000).at(0x3FE, Bench.CODE + 4);
        new Bench("CALL X(R4)").set(1, 0x400).set(4, 0x200).word(0x202, 0x3000).start(Bench.one(Bench.CALL, 1, 4), 2)
                .step(0).reg(0, 0x3000).at(0x3FE, Bench.CODE + 4).at(0x202, 0x3000);
        new Bench("CALL @R4+").set(1, 0x400).set(4, 0x200).word(0x200, 0x3000).start(Bench.one(Bench.CALL, 3, 4))
                .step(0).reg(0, 0x3000).reg(4, 0x202).at(0x3FE, Bench.CODE + 2).at(0x200, 0x3000);
        new Bench("CALL SP").set(1, 0x400).start(Bench.one(Bench.CALL, 0, 1)).step(0).reg(0, 0x400).reg(1, 0x3FE);
        new Bench("CALL and return").set(1, 0x400).word(0x3000, 0x4130).start(Bench.one(Bench.CALL, 3, 0), 0x3000)
                .step(0).step(0).reg(0, Bench.CODE + 4).reg(1, 0x400);
    }

    private static void returns() {
        new Bench("RETI").set(1, 0x400).words(0x400, 0xFFE7, 0x2345).start(Bench.RETI)
                .step(0).reg(2, 0xFFE7).reg(0, 0x2344).reg(1, 0x404).cycles(5);
        new Bench("RETI goes round").set(1, 0xFFFE).word(0, 0x3000).start(Bench.RETI)
                .step(0).reg(2, Bench.CODE - 4).reg(0, 0x3000).reg(1, 2);
    }

    private static void jumps() {
        for (int flags = 0; flags < 16; flags++) {
            boolean c = (flags & 1) != 0, z = (flags & 2) != 0, n = (flags & 4) != 0, v = (flags & 8) != 0;
            int status = (flags & 7) | (v ? V : 0);
            boolean[] taken = {!z, z, !c, c, n, n == v, n != v, true};
            for (int condition = 0; condition < 8; condition++) {
                new Bench("jump " + condition + " with SR " + status).set(2, status).start(0x2000 | condition << 10 | 5)
                        .step(0).reg(0, Bench.CODE + 2 + (taken[condition] ? 10 : 0)).reg(2, status).cycles(2);
            }
        }
        int[][] offsets = {{0, 0}, {1, 2}, {0x1FF, 1022}, {0x200, -1024}, {0x3FF, -2}, {0x3FE, -4}};
        for (int[] row : offsets) {
            new Bench("jump by " + row[1]).start(0x3C00 | row[0]).step(0).reg(0, Bench.CODE + 2 + row[1]);
        }
    }

    private static boolean isUnassigned(int word) {
        return word < 0x1000 || (word >= 0x1301 && word <= 0x1FFF) || (word >= 0x10C0 && word <= 0x10FF)
                || (word >= 0x11C0 && word <= 0x11FF) || (word >= 0x12C0 && word <= 0x12FF);
    }

    private static void unassigned() {
        Computer cpu = new Computer();
        for (int word = 0; word < 65536; word++) {
            boolean due = isUnassigned(word);
            // No object is asked beyond the 512 calls that the document promises.
            cpu = word % 32 == 0 ? new Computer() : cpu;
            cpu.poke(0xFFFE, 0);
            cpu.poke(0xFFFF, 0x10);
            cpu.init();
            cpu.poke(0x1000, word & 255);
            cpu.poke(0x1001, word >> 8);
            String name = "word 0x" + Integer.toHexString(word);
            Bench.due(name + ": step", cpu.step(), due ? 2 : 0);
            if (due) {
                Bench.due(name + ": PC", cpu.reg(0), 0x1000);
                Bench.due(name + ": SP", cpu.reg(1), 0);
                Bench.due(name + ": SR", cpu.reg(2), 0);
                Bench.due(name + ": cycles", cpu.cyclesOf(), 0);
            } else {
                Bench.due(name + ": cycles", cpu.cyclesOf() > 0, true);
            }
        }
        new Bench("CPUOFF ahead of UNASSIGNED").set(2, Bench.OFF).start(0).step(1).step(1).reg(0, Bench.CODE).cycles(0);
    }
}
