import java.math.BigInteger;

/** Promise 10, the long instructions but the atomic ones, as far as they are carried out. */
public final class LongTest {
    private static final Check CHECK = new Check();
    private static final int MIN = Integer.MIN_VALUE;
    private static final int MAX = Integer.MAX_VALUE;
    private static final int[] NUMBERS = {0, 1, -1, 2, -2, 3, 7, -7, 31, 32, 33, 63, 100, -100, 2047, -2048, 65535, 65536,
        0x12345678, 0x87654321, MAX, MAX - 1, MIN, MIN + 1, 0x55555555, 0xaaaaaaaa};
    private static final int[] IMMEDIATES = {0, 1, -1, 5, 31, 1024, -1024, 2047, -2048};

    public static void main(String[] args) {
        withRegisters();
        withNumbers();
        shiftsByNumbers();
        samesRegisters();
        zeroStays();
        upperNumbers();
        jumps();
        jumpsToRegisters();
        branches();
        loads();
        stores();
        fences();
        counters();
        CHECK.end();
    }

    /** What register d has behind the one instruction, a in x5 and b in x6. */
    private static int result(int word, int d, int a, int b) {
        RiscHart x = new RiscHart();
        x.set(5, a);
        x.set(6, b);
        x.plant(0, word);
        CHECK.same("step() of " + Integer.toHexString(word), x.step(), 0);
        CHECK.same("place behind " + Integer.toHexString(word), x.count(0), 4);
        CHECK.same("retired", x.count(3), 1);
        return x.register(d);
    }

    private static BigInteger signed(int v) {
        return BigInteger.valueOf(v);
    }

    private static BigInteger unsigned(int v) {
        return BigInteger.valueOf(v & 0xffffffffL);
    }

    private static BigInteger power(int v) {
        return BigInteger.TWO.pow(v & 31);
    }

    private static int flag(boolean holds) {
        return holds ? 1 : 0;
    }

    /** The floor of a / 2^n, which is what a signed shift to the right answers. */
    private static int floorShift(BigInteger a, int n) {
        BigInteger[] parts = a.divideAndRemainder(power(n));
        return (parts[1].signum() < 0 ? parts[0].subtract(BigInteger.ONE) : parts[0]).intValue();
    }

    private static int due(int f, int a, int b) {
        switch (f) {
            case 0: return signed(a).add(signed(b)).intValue();
            case 1: return signed(a).multiply(power(b)).intValue();
            case 2: return flag(signed(a).compareTo(signed(b)) < 0);
            case 3: return flag(unsigned(a).compareTo(unsigned(b)) < 0);
            case 4: return signed(a).xor(signed(b)).intValue();
            case 5: return unsigned(a).divide(power(b)).intValue();
            case 6: return signed(a).or(signed(b)).intValue();
            default: return signed(a).and(signed(b)).intValue();
        }
    }

    private static int dueOfProducts(int f, int a, int b) {
        switch (f) {
            case 0: return signed(a).multiply(signed(b)).intValue();
            case 1: return signed(a).multiply(signed(b)).shiftRight(32).intValue();
            case 2: return signed(a).multiply(unsigned(b)).shiftRight(32).intValue();
            case 3: return unsigned(a).multiply(unsigned(b)).shiftRight(32).intValue();
            case 4: return b == 0 ? -1 : signed(a).divide(signed(b)).intValue();
            case 5: return b == 0 ? -1 : unsigned(a).divide(unsigned(b)).intValue();
            case 6: return b == 0 ? a : signed(a).remainder(signed(b)).intValue();
            default: return b == 0 ? a : unsigned(a).remainder(unsigned(b)).intValue();
        }
    }

    private static void withRegisters() {
        for (int a : NUMBERS) {
            for (int b : NUMBERS) {
                String pair = " of " + a + ", " + b;
                for (int f = 0; f < 8; f++) {
                    CHECK.same("G 0 F " + f + pair, result(Asm.r(0, f, 7, 5, 6), 7, a, b), due(f, a, b));
                    CHECK.same("G 1 F " + f + pair, result(Asm.r(1, f, 7, 5, 6), 7, a, b), dueOfProducts(f, a, b));
                }
                CHECK.same("G 32 F 0" + pair, result(Asm.r(32, 0, 7, 5, 6), 7, a, b), signed(a).subtract(signed(b)).intValue());
                CHECK.same("G 32 F 5" + pair, result(Asm.r(32, 5, 7, 5, 6), 7, a, b), floorShift(signed(a), b));
            }
        }
    }

    private static void withNumbers() {
        for (int f : new int[] {0, 2, 3, 4, 6, 7}) {
            for (int a : NUMBERS) {
                for (int n : IMMEDIATES) {
                    CHECK.same("0x13 F " + f + " of " + a + ", " + n, result(Asm.i(0x13, f, 7, 5, n), 7, a, 0), due(f, a, n));
                }
            }
        }
    }

    private static void shiftsByNumbers() {
        for (int a : NUMBERS) {
            for (int n = 0; n < 32; n++) {
                String pair = " of " + a + ", " + n;
                CHECK.same("<<" + pair, result(Asm.i(0x13, 1, 7, 5, n), 7, a, 0), due(1, a, n));
                CHECK.same(">>>" + pair, result(Asm.i(0x13, 5, 7, 5, n), 7, a, 0), due(5, a, n));
                CHECK.same(">>" + pair, result(Asm.i(0x13, 5, 7, 5, 1024 | n), 7, a, 0), floorShift(signed(a), n));
            }
        }
    }

    private static void samesRegisters() {
        CHECK.same("x5 - x6 into x5", result(Asm.r(32, 0, 5, 5, 6), 5, 10, 3), 7);
        CHECK.same("x5 - x6 into x6", result(Asm.r(32, 0, 6, 5, 6), 6, 10, 3), 7);
        CHECK.same("x5 + x5", result(Asm.r(0, 0, 31, 5, 5), 31, 10, 3), 20);
        CHECK.same("x5 - x0", result(Asm.r(32, 0, 1, 5, 0), 1, 10, 3), 10);
    }

    private static void zeroStays() {
        int[] words = {Asm.addi(0, 0, 5), Asm.u(0x37, 0, 1), Asm.u(0x17, 0, 1), Asm.r(0, 0, 0, 5, 6), Asm.lw(0, 0, 0),
            Asm.counter(2, 0, 0, 0xc01), Asm.atomic(0, 0, 0, 6), Asm.atomic(Asm.SC, 0, 0, 6)};
        for (int word : words) {
            CHECK.same("x0 behind " + Integer.toHexString(word), result(word, 0, 3, 4), 0);
        }
    }

    private static void upperNumbers() {
        CHECK.same("0x37", result(Asm.u(0x37, 9, 0x12345), 9, 0, 0), 0x12345000);
        CHECK.same("0x37, signed", result(Asm.u(0x37, 9, 0xfffff), 9, 0, 0), 0xfffff000);
        for (int upper : new int[] {0, 1, 0x80000, 0xfffff}) {
            RiscHart x = new RiscHart();
            Asm.load(x, 0x1238, Asm.u(0x17, 9, upper));
            CHECK.same("step()", x.step(), 0);
            CHECK.same("0x17 with " + upper, x.register(9), 0x1238 + (upper << 12));
        }
    }

    private static void jumps() {
        int place = 0x1238;
        int[] offsets = {0, 2, 4, -2, 2046, 2048, 0x7fe, 0x800, 0xff000, 0xffffe, -0x100000, -4096, -2048, -2050, 0x55554};
        for (int offset : offsets) {
            RiscHart x = new RiscHart();
            Asm.load(x, place, Asm.j(3, offset));
            CHECK.same("step() of a jump", x.step(), 0);
            CHECK.same("place behind a jump by " + offset, x.count(0), place + offset);
            CHECK.same("link", x.register(3), place + 4);
            CHECK.same("retired", x.count(3), 1);
        }
        RiscHart x = new RiscHart();
        Asm.load(x, 8, Asm.j(0, 8));
        CHECK.same("step() of a jump without link", x.step(), 0);
        CHECK.same("x0", x.register(0), 0);
        CHECK.same("place", x.count(0), 16);
        for (int k = 1; k <= 20; k++) {
            RiscHart y = new RiscHart();
            int offset = k == 20 ? -(1 << 20) : 1 << k;
            Asm.load(y, 0, Asm.j(3, offset));
            y.step();
            CHECK.same("place behind a jump by bit " + k, y.count(0), offset);
        }
    }

    private static void jumpsToRegisters() {
        int[][] rows = {{100, 0, 100}, {100, 5, 104}, {101, 0, 100}, {100, -2048, -1948}, {MAX, 1, MIN}, {-1, 2047, 2046}, {0, -1, -2}};
        for (int[] row : rows) {
            RiscHart x = new RiscHart();
            x.set(5, row[0]);
            Asm.load(x, 0x40, Asm.i(0x67, 0, 5, 5, row[1]));
            CHECK.same("step() of a jump to a register", x.step(), 0);
            CHECK.same("place behind a jump to " + row[0] + " + " + row[1], x.count(0), row[2]);
            CHECK.same("link in the same register", x.register(5), 0x44);
        }
    }

    private static boolean holds(int f, int a, int b) {
        switch (f) {
            case 0: return a == b;
            case 1: return a != b;
            case 4: return signed(a).compareTo(signed(b)) < 0;
            case 5: return signed(a).compareTo(signed(b)) >= 0;
            case 6: return unsigned(a).compareTo(unsigned(b)) < 0;
            default: return unsigned(a).compareTo(unsigned(b)) >= 0;
        }
    }

    private static void branch(int f, int a, int b, int offset) {
        RiscHart x = new RiscHart();
        x.set(5, a);
        x.set(6, b);
        Asm.load(x, 0x2000, Asm.t(f, 5, 6, offset));
        CHECK.same("step() of a branch", x.step(), 0);
        CHECK.same("place behind F " + f + " of " + a + ", " + b + " by " + offset, x.count(0), 0x2000 + (holds(f, a, b) ? offset : 4));
        CHECK.same("retired", x.count(3), 1);
    }

    private static void branches() {
        for (int f : new int[] {0, 1, 4, 5, 6, 7}) {
            for (int a : NUMBERS) {
                for (int b : NUMBERS) {
                    branch(f, a, b, 64);
                }
            }
        }
        for (int k = 1; k <= 11; k++) {
            branch(0, 3, 3, 1 << k);
            branch(0, 3, 3, -(1 << k));
        }
        branch(0, 3, 3, -4096);
        branch(0, 3, 3, 4094);
        branch(0, 3, 3, 0);
    }

    private static void loads() {
        RiscHart x = new RiscHart();
        x.plant(0x800, 0x84838281);
        x.plant(0x804, 0x04030201);
        int[][] rows = {{0, 0x800, 0xffffff81}, {0, 0x801, 0xffffff82}, {0, 0x803, 0xffffff84}, {0, 0x805, 2},
            {1, 0x800, 0xffff8281}, {1, 0x802, 0xffff8483}, {1, 0x806, 0x0403}, {2, 0x800, 0x84838281}, {2, 0x804, 0x04030201},
            {4, 0x800, 0x81}, {4, 0x803, 0x84}, {4, 0x807, 4}, {5, 0x800, 0x8281}, {5, 0x802, 0x8483}, {5, 0x804, 0x0201}};
        for (int[] row : rows) {
            for (int number : new int[] {0, 3, -2048, 2047}) {
                x.set(5, row[1] - number);
                Asm.load(x, 0x100, Asm.i(0x03, row[0], 5, 5, number));
                CHECK.same("step() of a load", x.step(), 0);
                CHECK.same("load F " + row[0] + " at " + row[1], x.register(5), row[2]);
            }
        }
        RiscHart y = new RiscHart();
        y.plant(65532, 0x80706050);
        y.set(6, -4);
        y.set(7, 65540);
        Asm.load(y, 0, Asm.lw(1, 7, -8), Asm.i(0x03, 4, 2, 7, -5), Asm.lw(3, 6, 4), Asm.i(0x03, 1, 4, 7, -6));
        CHECK.same("run(4) at the edges", y.run(4), 4);
        CHECK.same("the last word", y.register(1), 0x80706050);
        CHECK.same("the last byte", y.register(2), 0x80);
        CHECK.same("the first word, round the end of the addresses", y.register(3), Asm.lw(1, 7, -8));
        CHECK.same("the last half", y.register(4), 0xffff8070);
    }

    private static void stores() {
        int[][] rows = {{0, 0, 0x111111ee}, {0, 1, 0x1111ee11}, {0, 2, 0x11ee1111}, {0, 3, 0xee111111}, {1, 0, 0x1111ccee},
            {1, 2, 0xccee1111}, {2, 0, 0x88aaccee}};
        for (int[] row : rows) {
            for (int number : new int[] {0, 1, 31, 32, -1, -2048, 2047}) {
                RiscHart x = new RiscHart();
                x.plant(0x1ffc, 0x11111111);
                x.plant(0x2000, 0x11111111);
                x.plant(0x2004, 0x11111111);
                x.set(5, 0x2000 + row[1] - number);
                x.set(6, 0x88aaccee);
                Asm.load(x, 0x100, Asm.s(row[0], 5, 6, number));
                CHECK.same("step() of a store", x.step(), 0);
                CHECK.same("store F " + row[0] + " at " + row[1] + ", " + number, Asm.word(x, 0x2000), row[2]);
                CHECK.same("the word before", Asm.word(x, 0x1ffc), 0x11111111);
                CHECK.same("the word behind", Asm.word(x, 0x2004), 0x11111111);
                CHECK.same("place", x.count(0), 0x104);
            }
        }
        RiscHart y = new RiscHart();
        y.set(6, 0x01010101);
        y.set(7, 65536);
        Asm.load(y, 0, Asm.s(0, 7, 6, -1), Asm.s(1, 7, 6, -4), Asm.sw(6, 0, 12), Asm.CALL);
        CHECK.same("run(3)", y.run(3), 3);
        CHECK.same("the last word", Asm.word(y, 65532), 0x01000101);
        CHECK.same("what it stored over the next instruction is a short one", y.step(), 0);
        CHECK.same("place behind it", y.count(0), 14);
    }

    private static void fences() {
        for (int word : new int[] {0x0000000f, 0x0000100f, 0x0ff0000f, 0xffff8f8f, 0xffff9f8f}) {
            CHECK.same("x31 behind a fence", result(word, 31, 1, 2), 0);
        }
    }

    private static void counters() {
        int[] fs = {2, 3, 6, 7};
        for (int f : fs) {
            RiscHart x = new RiscHart();
            x.clock(0x0000000700000009L);
            Asm.load(x, 0, Asm.addi(0, 0, 0), Asm.counter(f, 1, 0, 0xc00), Asm.counter(f, 2, 0, 0xc02), Asm.counter(f, 3, 0, 0xc01),
                Asm.counter(f, 4, 0, 0xc81), Asm.counter(f, 5, 0, 0xc80), Asm.counter(f, 6, 0, 0xc82), Asm.counter(f, 7, 0, 0xc00));
            x.set(5, 3);
            x.set(6, 3);
            CHECK.same("run(8)", x.run(8), 8);
            int[] due = {0, 1, 2, 9, 7, 0, 0, 7};
            for (int r = 0; r < 8; r++) {
                CHECK.same("counter in register " + r + " with F " + f, x.register(r), due[r]);
            }
        }
    }
}
