import java.util.Random;

/**
 * Promise 10, the short instructions: every half is set beside the long instruction that it stands for, which is
 * built here from the document's own patterns, such as 5:4|9:6|2|3.
 */
public final class ShortTest {
    private static final Check CHECK = new Check();
    private static final int ILLEGAL = 0;
    private static final int PLACE = 0x4000;
    private static final int LINK = 1;

    public static void main(String[] args) {
        known();
        for (int half = 0; half < 65536; half++) {
            if ((half & 3) != 3) {
                for (int seed = 0; seed < 3; seed++) {
                    compare(half, seed);
                }
            }
        }
        CHECK.end();
    }

    private static int bits(int half, int from, int to) {
        return half >> from & (1 << to - from + 1) - 1;
    }

    private static int signed(int number, int highest) {
        return (number >> highest & 1) == 0 ? number : number - (2 << highest);
    }

    private static int expand(int half) {
        switch (half & 3) {
            case 0: return expandQ0(half);
            case 1: return expandQ1(half);
            default: return expandQ2(half);
        }
    }

    private static int expandQ0(int half) {
        int low = 8 + bits(half, 2, 4);
        int high = 8 + bits(half, 7, 9);
        int offset = Half.read(half, 12, "5:3") | Half.read(half, 6, "2|6");
        switch (half >> 13) {
            case 0:
                int number = Half.read(half, 12, "5:4|9:6|2|3");
                return number == 0 ? ILLEGAL : Asm.addi(low, 2, number);
            case 2: return Asm.lw(low, high, offset);
            case 6: return Asm.sw(low, high, offset);
            default: return ILLEGAL;
        }
    }

    private static int expandQ1(int half) {
        int d = bits(half, 7, 11);
        int high = 8 + bits(half, 7, 9);
        int number = signed(Half.read(half, 12, "5") | Half.read(half, 6, "4:0"), 5);
        int offsetJ = signed(Half.read(half, 12, "11|4|9:8|10|6|7|3:1|5"), 11);
        int offsetT = signed(Half.read(half, 12, "8|4:3") | Half.read(half, 6, "7:6|2:1|5"), 8);
        switch (half >> 13) {
            case 0: return Asm.addi(d, d, number);
            case 1: return Asm.j(LINK, offsetJ);
            case 2: return Asm.addi(d, 0, number);
            case 3:
                if (d == 2) {
                    int move = signed(Half.read(half, 12, "9") | Half.read(half, 6, "4|6|8:7|5"), 9);
                    return move == 0 ? ILLEGAL : Asm.addi(2, 2, move);
                }
                return number == 0 ? ILLEGAL : Asm.u(0x37, d, number);
            case 4: return expandArithmetic(half, number);
            case 5: return Asm.j(0, offsetJ);
            case 6: return Asm.t(0, high, 0, offsetT);
            default: return Asm.t(1, high, 0, offsetT);
        }
    }

    private static int expandArithmetic(int half, int number) {
        int low = 8 + bits(half, 2, 4);
        int high = 8 + bits(half, 7, 9);
        int many = bits(half, 2, 6) | bits(half, 12, 12) << 5;
        switch (bits(half, 10, 11)) {
            case 0: return many > 31 ? ILLEGAL : Asm.i(0x13, 5, high, high, many);
            case 1: return many > 31 ? ILLEGAL : Asm.i(0x13, 5, high, high, many | 1024);
            case 2: return Asm.i(0x13, 7, high, high, number);
            default: break;
        }
        switch (bits(half, 12, 12) << 2 | bits(half, 5, 6)) {
            case 0: return Asm.r(32, 0, high, high, low);
            case 1: return Asm.r(0, 4, high, high, low);
            case 2: return Asm.r(0, 6, high, high, low);
            case 3: return Asm.r(0, 7, high, high, low);
            default: return ILLEGAL;
        }
    }

    private static int expandQ2(int half) {
        int d = bits(half, 7, 11);
        int b = bits(half, 2, 6);
        boolean bit12 = bits(half, 12, 12) == 1;
        switch (half >> 13) {
            case 0: return bit12 ? ILLEGAL : Asm.i(0x13, 1, d, d, b);
            case 2: return d == 0 ? ILLEGAL : Asm.lw(d, 2, Half.read(half, 12, "5") | Half.read(half, 6, "4:2|7:6"));
            case 4:
                if (b != 0) {
                    return Asm.r(0, 0, d, bit12 ? d : 0, b);
                }
                if (d != 0) {
                    return Asm.i(0x67, 0, bit12 ? LINK : 0, d, 0);
                }
                return bit12 ? Asm.BREAK : ILLEGAL;
            case 6: return Asm.sw(b, 2, Half.read(half, 12, "5:2|7:6"));
            default: return ILLEGAL;
        }
    }

    /** Registers that hold addresses of words (seed 0), any numbers (seed 1), or mostly 0 (seed 2). */
    private static RiscHart hart(int seed, int word) {
        Random random = new Random(seed);
        RiscHart x = new RiscHart();
        for (int r = 1; r < 32; r++) {
            int number = random.nextInt();
            x.set(r, seed == 0 ? number & 0x7ffc | 0x8000 : seed == 1 ? number : r % 3 == 0 ? 4 * r : 0);
        }
        x.plant(PLACE, word);
        x.jump(PLACE);
        return x;
    }

    private static int addressOf(RiscHart x, int word) {
        int a = x.register(word >> 15 & 31);
        return (word & 0x7f) == 0x23 ? a + ((word >> 25) << 5 | word >> 7 & 31) : a + (word >> 20);
    }

    private static boolean isAccess(int word) {
        return (word & 0x7f) == 0x03 || (word & 0x7f) == 0x23;
    }

    private static boolean isJump(int word) {
        return (word & 0x7f) == 0x6f || (word & 0x7f) == 0x67;
    }

    private static boolean isLink(int word) {
        return isJump(word) && (word >> 7 & 31) == LINK;
    }

    /** Asked before the step; only == and != 0 stand behind a short branch. */
    private static boolean jumps(RiscHart x, int word) {
        boolean isZero = x.register(word >> 15 & 31) == 0;
        boolean branches = (word & 0x7f) == 0x63 && isZero == ((word >> 12 & 7) == 0);
        return isJump(word) || branches;
    }

    private static boolean isThere(int address) {
        return address >= 0 && address < 65533 && (address & 3) == 0 && address != PLACE;
    }

    private static void compare(int half, int seed) {
        String name = "half " + Integer.toHexString(half) + ", seed " + seed + ": ";
        int word = expand(half);
        RiscHart x = hart(seed, 0x5a5a0000 | half);
        RiscHart y = hart(seed, word);
        int address = isAccess(word) ? addressOf(y, word) : 0;
        if (isAccess(word) && isThere(address)) {
            x.plant(address, 0xc0ffee11);
            y.plant(address, 0xc0ffee11);
        }
        boolean jumps = jumps(y, word);
        int cause = y.step();
        CHECK.same(name + "step()", x.step(), cause);
        CHECK.same(name + "value", x.count(2), word == ILLEGAL ? half : y.count(2));
        CHECK.same(name + "retired", x.count(3), y.count(3));
        CHECK.same(name + "place", x.count(0), cause != 0 || jumps ? y.count(0) : PLACE + 2);
        for (int r = 0; r < 32; r++) {
            int due = r == LINK && isLink(word) ? PLACE + 2 : y.register(r);
            CHECK.same(name + "register " + r, x.register(r), due);
        }
        if (isAccess(word) && isThere(address)) {
            CHECK.same(name + "word", Asm.word(x, address), Asm.word(y, address));
        }
    }

    /** Halves as a known assembler writes them, with what they do. */
    private static void known() {
        after("addi x8, x2, 16", 0x0800, 8, 0x1010);
        after("li x10, -1", 0x557d, 10, -1);
        after("li x10, 31", 0x457d, 10, 31);
        after("addi x10, 1", 0x0505, 10, 0xa01);
        after("lui x10, 1", 0x6505, 10, 0x1000);
        after("lui x10, 0xfffff", 0x757d, 10, 0xfffff000);
        after("addi x2, x2, -16", 0x1141, 2, 0xff0);
        after("addi x2, x2, -64", 0x7139, 2, 0xfc0);
        after("addi x2, x2, 64", 0x6121, 2, 0x1040);
        after("mv x10, x11", 0x852e, 10, 0xb00);
        after("add x10, x11", 0x952e, 10, 0x1500);
        after("sub x10, x11", 0x8d0d, 10, -0x100);
        after("xor x10, x11", 0x8d2d, 10, 0x100);
        after("or x10, x11", 0x8d4d, 10, 0xb00);
        after("and x10, x11", 0x8d6d, 10, 0xa00);
        after("andi x10, 15", 0x893d, 10, 0);
        after("srli x10, 4", 0x8111, 10, 0xa0);
        after("srai x10, 4", 0x8511, 10, 0xa0);
        after("slli x10, 4", 0x0512, 10, 0xa000);
        after("lw x10, 12(x2)", 0x4532, 10, 0x77);
        after("nop", 0x0001, 10, 0xa00);
        goesTo("ret", 0x8082, 0x100, 0x100);
        goesTo("jr x10", 0x8502, 0xa00, 0x100);
        goesTo("jalr x10", 0x9502, 0xa00, PLACE + 2);
        goesTo("jalr x1", 0x9082, 0x100, PLACE + 2);
        goesTo("j .", 0xa001, PLACE, 0x100);
        goesTo("jal . + 4", 0x2011, PLACE + 4, PLACE + 2);
        goesTo("bnez x10, . - 2", 0xfd7d, PLACE - 2, 0x100);
        goesTo("beqz x10, . + 8", 0xc501, PLACE + 2, 0x100);
    }

    /** Register r has 0x100 * r, but x2, which has 0x1000; the word at 0x100c is 0x77. */
    private static RiscHart knownHart(int half) {
        RiscHart x = new RiscHart();
        for (int r = 1; r < 32; r++) {
            x.set(r, 0x100 * r);
        }
        x.set(2, 0x1000);
        x.plant(0x100c, 0x77);
        Asm.load(x, PLACE, half);
        CHECK.same("step() of " + Integer.toHexString(half), x.step(), 0);
        return x;
    }

    private static void after(String text, int half, int r, int due) {
        RiscHart x = knownHart(half);
        CHECK.same(text, x.register(r), due);
        CHECK.same("place behind " + text, x.count(0), PLACE + 2);
    }

    private static void goesTo(String text, int half, int place, int link) {
        RiscHart x = knownHart(half);
        CHECK.same(text, x.count(0), place);
        CHECK.same("x1 behind " + text, x.register(1), link);
    }
}
