/** Promise 10, the atomic instructions and the reservation; promises 2, 3 and 12 as far as they touch it. */
public final class AtomicTest {
    private static final Check CHECK = new Check();
    private static final int AT = 0x3000;
    private static final int[] NUMBERS = {0, 1, -1, 5, -5, 0x0f0f0f0f, 0x12345678, Integer.MIN_VALUE, Integer.MAX_VALUE};

    public static void main(String[] args) {
        changes();
        lowerBitsOfG();
        registersMayBeTheSame();
        reserve();
        storeConditional();
        anotherWordIsNotReserved();
        whatEndsIt();
        whatDoesNotEndIt();
        CHECK.end();
    }

    private static int due(int k, int word, int b) {
        switch (k) {
            case 0: return word + b;
            case 1: return b;
            case 4: return word ^ b;
            case 8: return word | b;
            case 12: return word & b;
            case 16: return Math.min(word, b);
            case 20: return Math.max(word, b);
            case 24: return Integer.compareUnsigned(word, b) < 0 ? word : b;
            default: return Integer.compareUnsigned(word, b) > 0 ? word : b;
        }
    }

    /** A hart with the address in x5, b in x6 and a word there. */
    private static RiscHart hart(int word, int b) {
        return Bench.withWord(AT, word, b);
    }

    private static void carryOut(RiscHart x, int word) {
        Asm.load(x, 0x100, word);
        CHECK.same("step() of " + Integer.toHexString(word), x.step(), 0);
        CHECK.same("place", x.count(0), 0x104);
    }

    /** As hart(), with the word reserved. */
    private static RiscHart reserving(int word, int b) {
        RiscHart x = hart(word, b);
        carryOut(x, Asm.atomic(Asm.LR, 7, 5, 0));
        CHECK.same("reserved", x.count(4), AT);
        return x;
    }

    private static void changes() {
        for (int k : new int[] {0, 1, 4, 8, 12, 16, 20, 24, 28}) {
            for (int word : NUMBERS) {
                for (int b : NUMBERS) {
                    RiscHart x = hart(word, b);
                    carryOut(x, Asm.atomic(k, 7, 5, 6));
                    String which = "K " + k + " of " + word + ", " + b;
                    CHECK.same("d of " + which, x.register(7), word);
                    CHECK.same("word of " + which, Asm.word(x, AT), due(k, word, b));
                    CHECK.same("b stays", x.register(6), b);
                    CHECK.same("nothing reserved", x.count(4), -1);
                    CHECK.same("retired", x.count(3), 1);
                }
            }
        }
    }

    private static void lowerBitsOfG() {
        for (int low = 0; low < 4; low++) {
            RiscHart x = hart(40, 2);
            carryOut(x, Asm.atomic(0, 7, 5, 6) | low << 25);
            CHECK.same("word", Asm.word(x, AT), 42);
            carryOut(x, Asm.atomic(Asm.LR, 7, 5, 0) | low << 25);
            CHECK.same("reserved", x.count(4), AT);
            carryOut(x, Asm.atomic(Asm.SC, 7, 5, 6) | low << 25);
            CHECK.same("word", Asm.word(x, AT), 2);
            CHECK.same("d", x.register(7), 0);
        }
    }

    private static void registersMayBeTheSame() {
        RiscHart x = hart(40, 2);
        carryOut(x, Asm.atomic(0, 6, 5, 6));
        CHECK.same("word + b, d being b", Asm.word(x, AT), 42);
        CHECK.same("d being b", x.register(6), 40);
        RiscHart y = hart(40, 2);
        carryOut(y, Asm.atomic(0, 5, 5, 5));
        CHECK.same("word + a, d and b being a", Asm.word(y, AT), 40 + AT);
        CHECK.same("d being a", y.register(5), 40);
        RiscHart z = hart(40, 2);
        carryOut(z, Asm.atomic(Asm.LR, 5, 5, 0));
        CHECK.same("load reserved, d being a", z.register(5), 40);
        CHECK.same("reserved", z.count(4), AT);
        z.set(5, AT);
        carryOut(z, Asm.atomic(Asm.SC, 5, 5, 5));
        CHECK.same("store conditional, all the same", z.register(5), 0);
        CHECK.same("word", Asm.word(z, AT), AT);
    }

    private static void reserve() {
        RiscHart x = reserving(-9, 0);
        CHECK.same("d", x.register(7), -9);
        CHECK.same("word", Asm.word(x, AT), -9);
        x.set(5, 0);
        carryOut(x, Asm.atomic(Asm.LR, 7, 5, 0));
        CHECK.same("reserved in place of another one", x.count(4), 0);
        x.set(5, AT);
        carryOut(x, Asm.atomic(Asm.SC, 7, 5, 6));
        CHECK.same("the former is no longer", x.register(7), 1);
        CHECK.same("its word stays", Asm.word(x, AT), -9);
    }

    private static void storeConditional() {
        RiscHart x = reserving(3, 8);
        carryOut(x, Asm.atomic(Asm.SC, 7, 5, 6));
        CHECK.same("d", x.register(7), 0);
        CHECK.same("word", Asm.word(x, AT), 8);
        CHECK.same("nothing reserved", x.count(4), -1);
        x.set(6, 9);
        carryOut(x, Asm.atomic(Asm.SC, 7, 5, 6));
        CHECK.same("d, the second time", x.register(7), 1);
        CHECK.same("word, the second time", Asm.word(x, AT), 8);
        RiscHart y = hart(3, 8);
        carryOut(y, Asm.atomic(Asm.SC, 7, 5, 6));
        CHECK.same("d, never reserved", y.register(7), 1);
        CHECK.same("word, never reserved", Asm.word(y, AT), 3);
    }

    private static void anotherWordIsNotReserved() {
        RiscHart x = reserving(3, 8);
        x.set(5, AT + 4);
        carryOut(x, Asm.atomic(Asm.SC, 7, 5, 6));
        CHECK.same("d of another word", x.register(7), 1);
        CHECK.same("another word", Asm.word(x, AT + 4), 0);
        CHECK.same("nothing is reserved then", x.count(4), -1);
        x.set(5, AT);
        carryOut(x, Asm.atomic(Asm.SC, 7, 5, 6));
        CHECK.same("d", x.register(7), 1);
        CHECK.same("word", Asm.word(x, AT), 3);
    }

    private static void ended(String by, RiscHart x) {
        CHECK.same("reserved behind " + by, x.count(4), -1);
        carryOut(x, Asm.atomic(Asm.SC, 7, 5, 6));
        CHECK.same("store conditional behind " + by, x.register(7), 1);
    }

    private static void kept(String behind, RiscHart x) {
        CHECK.same("reserved behind " + behind, x.count(4), AT);
        carryOut(x, Asm.atomic(Asm.SC, 7, 5, 6));
        CHECK.same("store conditional behind " + behind, x.register(7), 0);
    }

    private static void whatEndsIt() {
        for (int k = 0; k < 4; k++) {
            RiscHart x = reserving(0, 0);
            x.poke(AT + k, 0);
            ended("poke, byte " + k, x);
            RiscHart y = reserving(0, 0);
            carryOut(y, Asm.s(0, 5, 6, k));
            ended("a store of byte " + k, y);
            RiscHart z = reserving(0, 0);
            carryOut(z, Asm.s(1, 5, 6, k & 2));
            ended("a store of half " + (k & 2), z);
        }
        RiscHart x = reserving(5, 5);
        x.plant(AT, 5);
        ended("plant", x);
        RiscHart y = reserving(5, 5);
        carryOut(y, Asm.sw(6, 5, 0));
        ended("a store of the word", y);
        for (int k : new int[] {0, 1, 4, 8, 12, 16, 20, 24, 28}) {
            RiscHart z = reserving(0, 0);
            carryOut(z, Asm.atomic(k, 8, 5, 6));
            ended("atomic " + k, z);
        }
        RiscHart z = reserving(5, 0);
        z.set(2, AT);
        carryOutShort(z, 0xc01a);
        ended("a short store on the stack", z);
        RiscHart w = reserving(5, 0);
        w.set(8, AT);
        carryOutShort(w, 0xc000);
        ended("a short store", w);
    }

    private static void carryOutShort(RiscHart x, int half) {
        Asm.load(x, 0x100, half);
        CHECK.same("step() of " + Integer.toHexString(half), x.step(), 0);
    }

    private static void whatDoesNotEndIt() {
        RiscHart x = reserving(3, 8);
        x.poke(AT - 1, 1);
        x.poke(AT + 4, 1);
        x.plant(AT - 4, 1);
        x.plant(AT + 4, 1);
        carryOut(x, Asm.sw(6, 5, 4));
        carryOut(x, Asm.s(0, 5, 6, -1));
        carryOut(x, Asm.s(1, 5, 6, -2));
        x.set(9, AT + 4);
        carryOut(x, Asm.atomic(0, 8, 9, 6));
        carryOut(x, Asm.lw(8, 5, 0));
        x.rights(AT / 1024, 1);
        carryOut(x, Asm.addi(8, 0, 1));
        Asm.load(x, 0x100, Asm.sw(6, 5, 0));
        CHECK.same("a store that traps", x.step(), 7);
        Asm.load(x, 0x100, Asm.atomic(Asm.SC, 8, 5, 6));
        CHECK.same("a store conditional that traps", x.step(), 7);
        x.rights(AT / 1024, 7);
        kept("all these", x);
        CHECK.same("word", Asm.word(x, AT), 8);
    }
}
