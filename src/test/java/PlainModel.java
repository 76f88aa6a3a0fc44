/**
 * The document written down a second time, bit by bit and without regard to speed,
 * sharing no code and no forms with LowPowerCpu: what both get wrong alike, both misread.
 */
final class PlainModel {
    final int[] bytes = new int[65536];
    final int[] r = new int[16];
    final boolean[] lines = new boolean[14];
    final java.util.BitSet written = new java.util.BitSet();
    int one, two, low, high, extra, mode;
    long cycles;

    PlainModel() {
        init();
    }

    void init() {
        java.util.Arrays.fill(r, 0);
        java.util.Arrays.fill(lines, false);
        one = two = low = high = extra = mode = 0;
        cycles = 0;
        r[0] = load(0xFFFE) / 2 * 2;
    }

    int peek(int a) {
        if (a < 0x130 || a > 0x13F) {
            return bytes[a];
        }
        int word = a < 0x138 ? one : a < 0x13A ? two : a < 0x13C ? low : a < 0x13E ? high : extra;
        return a % 2 == 0 ? word % 256 : word / 256;
    }

    void poke(int a, int b) {
        if (a < 0x130 || a > 0x13F) {
            setByte(a, b);
            return;
        }
        int even = a / 2 * 2;
        int word = a % 2 == 0 ? peek(even + 1) * 256 + b : b * 256 + peek(even);
        if (a < 0x138) one = word;
        else if (a < 0x13A) two = word;
        else if (a < 0x13C) low = word;
        else if (a < 0x13E) high = word;
        else extra = word;
    }

    int pending() {
        int sum = 0;
        for (int k = 0; k < 14; k++) {
            if (lines[k]) sum += (int) Math.pow(2, k);
        }
        return sum;
    }

    private int load(int a) {
        int even = Math.floorMod(a, 65536) / 2 * 2;
        return peek(even) + 256 * peek(even + 1);
    }

    private int load(int a, boolean ofBytes) {
        return ofBytes ? peek(Math.floorMod(a, 65536)) : load(a);
    }

    private void store(int a, int value, boolean ofBytes) {
        boolean multiplier = a >= 0x130 && a <= 0x13F;
        if (multiplier) {
            if (ofBytes && a % 2 == 1) return;
            storeMultiplier(a / 2 * 2, value);
        } else if (ofBytes) {
            setByte(a, value);
        } else {
            setByte(a / 2 * 2, value % 256);
            setByte(a / 2 * 2 + 1, value / 256);
        }
    }

    private void setByte(int a, int value) {
        bytes[a] = value;
        written.set(a);
    }

    private void storeMultiplier(int a, int value) {
        if (a == 0x130 || a == 0x132 || a == 0x134 || a == 0x136) {
            one = value;
            mode = (a - 0x130) / 2;
        } else if (a == 0x13A) {
            low = value;
        } else if (a == 0x13C) {
            high = value;
        } else if (a == 0x138) {
            two = value;
            java.math.BigInteger p = big(one).multiply(big(two));
            java.math.BigInteger round = java.math.BigInteger.ONE.shiftLeft(32);
            java.math.BigInteger had = java.math.BigInteger.valueOf(high * 65536L + low);
            java.math.BigInteger sum = mode >= 2 ? had.add(p) : p;
            long now = sum.mod(round).longValue();
            high = (int) (now / 65536);
            low = (int) (now % 65536);
            if (mode < 2) extra = p.signum() < 0 ? 0xFFFF : 0;
            else if (mode == 2) extra = sum.compareTo(round) >= 0 ? 1 : 0;
            else extra = now >= 0x80000000L ? 0xFFFF : 0;
        }
    }

    private java.math.BigInteger big(int word) {
        return java.math.BigInteger.valueOf(mode % 2 == 1 && word >= 32768 ? word - 65536 : word);
    }

    private boolean flag(int bit) {
        return ((r[2] >> bit) & 1) == 1;
    }

    private void flag(int bit, boolean on) {
        if (flag(bit) != on) r[2] += on ? 1 << bit : -(1 << bit);
    }

    private void setReg(int i, int value) {
        int v = Math.floorMod(value, 65536);
        if (i == 0) v = v / 2 * 2;
        if (i != 3) r[i] = v;
    }

    private int takeWord() {
        int word = load(r[0]);
        setReg(0, r[0] + 2);
        return word;
    }

    int run(int n) {
        int told = 0;
        for (int i = 0; i < n; i++) {
            told = step();
            if (told == 2) break;
        }
        return told;
    }

    int step() {
        if (flag(3)) {
            for (int k = 13; k >= 0; k--) {
                if (lines[k]) {
                    interrupt(k);
                    return 0;
                }
            }
        }
        if (flag(4)) return 1;
        int w = load(r[0]);
        String bits = String.format("%16s", Integer.toBinaryString(w)).replace(' ', '0');
        if (bits.startsWith("001")) {
            takeWord();
            jump(bits);
        } else if (w >= 0x4000) {
            takeWord();
            twoParts(w);
        } else if (w == 0x1300) {
            takeWord();
            r[2] = load(r[1]);
            setReg(1, r[1] + 2);
            setReg(0, load(r[1]));
            setReg(1, r[1] + 2);
            cycles += 5;
        } else if (bits.startsWith("000100") && onePartKnown(bits)) {
            takeWord();
            onePart(w);
        } else {
            return 2;
        }
        return 0;
    }

    private static boolean onePartKnown(String bits) {
        String operation = bits.substring(6, 9);
        boolean ofBytes = bits.charAt(9) == '1';
        switch (operation) {
            case "000": case "010": case "100": return true;
            case "001": case "011": case "101": return !ofBytes;
            default: return false;
        }
    }

    private void interrupt(int k) {
        setReg(1, r[1] - 2);
        store(r[1], r[0], false);
        setReg(1, r[1] - 2);
        store(r[1], r[2], false);
        lines[k] = false;
        r[2] = flag(6) ? 64 : 0;
        setReg(0, load(0xFFE0 + 2 * k));
        cycles += 6;
    }

    private void jump(String bits) {
        int offset = Integer.parseInt(bits.substring(6), 2);
        if (offset >= 512) offset -= 1024;
        boolean c = flag(0), z = flag(1), n = flag(2), v = flag(8), go;
        switch (bits.substring(3, 6)) {
            case "000": go = !z; break;
            case "001": go = z; break;
            case "010": go = !c; break;
            case "011": go = c; break;
            case "100": go = n; break;
            case "101": go = !(n ^ v); break;
            case "110": go = n ^ v; break;
            default: go = true;
        }
        if (go) setReg(0, r[0] + 2 * offset);
        cycles += 2;
    }

    /** An operand: its value when read, and where it stands ('r', 'm', or 'n' for a number). */
    private static final class Operand {
        char kind;
        int where;
        int value;
        int costs;
    }

    private Operand number(int value, boolean ofBytes) {
        Operand o = new Operand();
        o.kind = 'n';
        o.value = ofBytes ? value % 256 : value;
        return o;
    }

    private Operand register(int i, boolean ofBytes) {
        Operand o = new Operand();
        o.kind = 'r';
        o.where = i;
        o.value = ofBytes ? r[i] % 256 : r[i];
        return o;
    }

    private Operand inMemory(int a, boolean ofBytes, int costs) {
        Operand o = new Operand();
        o.kind = 'm';
        o.where = Math.floorMod(a, 65536);
        o.value = load(o.where, ofBytes);
        o.costs = costs;
        return o;
    }

    private Operand source(int way, int s, boolean ofBytes) {
        if (s == 3) return number(new int[] {0, 1, 2, 0xFFFF}[way], ofBytes);
        if (s == 2 && way == 2) return number(4, ofBytes);
        if (s == 2 && way == 3) return number(8, ofBytes);
        if (way == 0) return register(s, ofBytes);
        if (way == 1) {
            int stands = r[0];
            int x = takeWord();
            int base = s == 2 ? 0 : s == 0 ? stands : r[s];
            return inMemory(x + base, ofBytes, 3);
        }
        Operand o = inMemory(r[s], ofBytes, way == 2 ? 1 : 2);
        if (way == 3) setReg(s, r[s] + (ofBytes && s > 3 ? 1 : 2));
        return o;
    }

    private void result(Operand o, int value, boolean ofBytes) {
        if (o.kind == 'r') setReg(o.where, value);
        if (o.kind == 'm') store(o.where, value, ofBytes);
    }

    private static boolean bit(int value, int k) {
        return ((value >> k) & 1) == 1;
    }

    private void twoParts(int w) {
        boolean ofBytes = bit(w, 6);
        Operand from = source(w / 16 % 4, w / 256 % 16, ofBytes);
        int d = w % 16;
        Operand to;
        if (bit(w, 7)) {
            int stands = r[0];
            int x = takeWord();
            to = inMemory(x + (d == 0 ? stands : d == 2 || d == 3 ? 0 : r[d]), ofBytes, 0);
        } else {
            to = register(d, ofBytes);
        }
        int top = ofBytes ? 7 : 15;
        int x = from.value;
        int y = to.value;
        int all = ofBytes ? 255 : 65535;
        int value = 0;
        int c = flag(0) ? 1 : 0;
        switch (w / 4096) {
            case 4: value = x; break;
            case 5: value = sum(x, y, 0, top); break;
            case 6: value = sum(x, y, c, top); break;
            case 7: value = sum(all - x, y, c, top); break;
            case 8: case 9: value = sum(all - x, y, 1, top); break;
            case 10: value = decimal(x, y, c, top); break;
            case 11: case 15: value = x & y; flags(value, value > 0, false, top); break;
            case 12: value = y - (y & x); break;
            case 13: value = y + x - (y & x); break;
            case 14: value = y + x - 2 * (y & x); flags(value, value > 0, bit(x, top) && bit(y, top), top); break;
            default: throw new IllegalStateException();
        }
        if (w / 4096 != 9 && w / 4096 != 11) result(to, value, ofBytes);
        String costs = to.kind == 'm' ? "4556" : d == 0 ? "2233" : "1223";
        cycles += costs.charAt(from.costs) - '0';
    }

    private void flags(int value, boolean c, boolean v, int top) {
        flag(0, c);
        flag(1, value == 0);
        flag(2, bit(value, top));
        flag(8, v);
    }

    private int sum(int x, int y, int carry, int top) {
        int value = 0;
        int carried = carry;
        for (int k = 0; k <= top; k++) {
            int here = (bit(x, k) ? 1 : 0) + (bit(y, k) ? 1 : 0) + carried;
            if (here % 2 == 1) value += 1 << k;
            carried = here / 2;
        }
        flags(value, carried == 1, bit(x, top) == bit(y, top) && bit(value, top) != bit(x, top), top);
        return value;
    }

    private int decimal(int x, int y, int carry, int top) {
        int value = 0;
        int carried = carry;
        int weight = 1;
        for (int k = 0; k <= top; k += 4) {
            int digit = x / weight % 16 + y / weight % 16 + carried;
            carried = 0;
            if (digit > 9) {
                digit = (digit - 10) % 16;
                carried = 1;
            }
            value += digit * weight;
            weight *= 16;
        }
        flags(value, carried == 1, false, top);
        return value;
    }

    private void onePart(int w) {
        boolean ofBytes = bit(w, 6);
        int way = w / 16 % 4;
        int s = w % 16;
        Operand o = source(way, s, ofBytes);
        int x = o.value;
        int top = ofBytes ? 7 : 15;
        int operation = w / 128 % 8;
        if (operation == 4) {
            setReg(1, r[1] - 2);
            store(r[1], x, ofBytes);
            cycles += way == 3 && s == 0 ? 4 : "3455".charAt(o.costs) - '0';
            return;
        }
        if (operation == 5) {
            setReg(1, r[1] - 2);
            store(r[1], r[0], false);
            setReg(0, x);
            cycles += "4455".charAt(o.costs) - '0';
            return;
        }
        int value;
        if (operation == 1) {
            value = x % 256 * 256 + x / 256;
        } else if (operation == 3) {
            value = x % 256 + (bit(x, 7) ? 0xFF00 : 0);
            flags(value, value != 0, false, top);
        } else {
            boolean above = operation == 0 ? flag(0) : bit(x, top);
            value = x / 2 + (above ? 1 << top : 0);
            if (operation == 2 && bit(x, top)) value = x / 2 % (1 << top) + (1 << top);
            flags(value, x % 2 == 1, false, top);
        }
        result(o, value, ofBytes);
        cycles += "1334".charAt(o.costs) - '0';
    }
}
