/** The sentences of the section "Terms" on the long ones but the atomic that name an edge, each with a test of its own. */
public final class EdgeLongTest {
    private static final Check CHECK = new Check();
    private static final int MIN = Integer.MIN_VALUE;
    private static final int MAX = Integer.MAX_VALUE;
    private static final int[] COUNTERS = {0xc00, 0xc01, 0xc02, 0xc80, 0xc81, 0xc82};

    public static void main(String[] args) {
        CHECK.sentence("IMMEDIATES, signed: I: bits 20 .. 31.", EdgeLongTest::numberI);
        CHECK.sentence("S: G and D (D the lowest five bits).", EdgeLongTest::numberS);
        CHECK.sentence("0x37 d = the bits 12 .. 31 with twelve 0 below.", EdgeLongTest::upperNumber);
        CHECK.sentence("0x17 d = place + such a number.", EdgeLongTest::placeAndUpperNumber);
        CHECK.sentence("0x6f d = place + 4, jump to place + J", EdgeLongTest::jumpAndLink);
        CHECK.sentence("0x67, F 0: d = place + 4, jump to a + I.", EdgeLongTest::jumpToRegister);
        CHECK.sentence("0x63: jump to place + T, if F 0 a = b, 1 a is another, 4 a < b, 5 not, 6 and 7 likewise unsigned", EdgeLongTest::branches);
        CHECK.sentence("T: bits 31, 7, 25 .. 30, 8 .. 11 and a 0.", EdgeLongTest::offsetT);
        CHECK.sentence("0x63: no other F", EdgeLongTest::noOtherBranches);
        CHECK.sentence("0x03, at a + I: F 0 a byte, 1 a half, 2 a word, the first two signed, 4 and 5 unsigned: d.", EdgeLongTest::loads);
        CHECK.sentence("0x03: no other F", EdgeLongTest::noOtherLoads);
        CHECK.sentence("0x23, at a + S: F 0, 1, 2 a byte, half, word becomes the lowest bits of b.", EdgeLongTest::stores);
        CHECK.sentence("0x23: no other F", EdgeLongTest::noOtherStores);
        CHECK.sentence("0x13: 2 whether a < I (1, 0), 3 likewise unsigned (I as 32 bits)", EdgeLongTest::isLess);
        CHECK.sentence("4 a ^ I, 6 a | I, 7 a & I", EdgeLongTest::bitsWithNumbers);
        CHECK.sentence("1 with G 0: a << B (the number), 5 with G 0: a >>> B, with G 32: a >> B.", EdgeLongTest::shiftsByNumbers);
        CHECK.sentence("0x13: F 1 and 5 with no other G", EdgeLongTest::noOtherShifts);
        CHECK.sentence("0x33, G 0: 2 a < b, 3 unsigned", EdgeLongTest::isLessRegister);
        CHECK.sentence("1 a << (b & 31), 5 a >>> (b & 31), G 32: 5 a >> (b & 31)", EdgeLongTest::shiftsByRegisters);
        CHECK.sentence("0x33, G 32: F 0 and 5 alone; no other G", EdgeLongTest::noOtherSums);
        CHECK.sentence("G 1: F 0 a * b, its lowest 32 bits", EdgeLongTest::lowerProduct);
        CHECK.sentence("the highest 32 of the 64 bits of 1 both signed", EdgeLongTest::upperProductSigned);
        CHECK.sentence("2 a signed, b unsigned", EdgeLongTest::upperProductMixed);
        CHECK.sentence("3 both unsigned", EdgeLongTest::upperProductUnsigned);
        CHECK.sentence("4 a / b (towards 0)", EdgeLongTest::quotients);
        CHECK.sentence("5 unsigned", EdgeLongTest::quotientsUnsigned);
        CHECK.sentence("6 a remainder b (with the sign of a)", EdgeLongTest::remainders);
        CHECK.sentence("7 unsigned", EdgeLongTest::remaindersUnsigned);
        CHECK.sentence("divided by 0: -1, and a as remainder.", EdgeLongTest::byZero);
        CHECK.sentence("0x0f, F 0 or 1: nothing.", EdgeLongTest::nothing);
        CHECK.sentence("0x73: the whole 0x00000073 CALL, 0x00100073 BREAK", EdgeLongTest::wholeCallAndBreak);
        CHECK.sentence("F 2 or 3 with A 0, or F 6 or 7 with A 0: d is counter I", EdgeLongTest::readsCounters);
        CHECK.sentence("0xc00 and 0xc02 the lower half of how many were retired, 0xc80 and 0xc82 the upper", EdgeLongTest::countsRetired);
        CHECK.sentence("0xc01 and 0xc81 of the CLOCK", EdgeLongTest::tellsClock);
        CHECK.sentence("other counters are illegal.", EdgeLongTest::noOtherCounters);
        CHECK.sentence("ILLEGAL: the bits are no instruction below: opcodes", EdgeLongTest::noOtherOpcodes);
        CHECK.end();
    }

    private static void result(String what, int word, int a, int b, int due) {
        CHECK.same(what + " of " + a + ", " + b, Bench.result(CHECK, word, a, b), due);
    }

    /** Rows of a, b and what is due, for 0x33. */
    private static void rows(String what, int g, int f, int[][] rows) {
        for (int[] row : rows) {
            result(what, Asm.r(g, f, 7, 5, 6), row[0], row[1], row[2]);
        }
    }

    /** Rows of a, I and what is due, for 0x13. */
    private static void numberRows(String what, int f, int[][] rows) {
        for (int[] row : rows) {
            result(what + " " + row[1], Asm.i(0x13, f, 7, 5, row[1]), row[0], 0, row[2]);
        }
    }

    private static void numberI() {
        numberRows("+", 0, new int[][] {{0, 0, 0}, {0, 1, 1}, {0, 2047, 2047}, {0, -2048, -2048}, {0, -1, -1}, {5, -5, 0}, {-1, 1, 0}});
        RiscHart x = Bench.hart(Asm.i(0x03, 0, 7, 5, -2048), 2048, 0);
        x.poke(0, 11);
        x.poke(4095, 12);
        CHECK.same("step() of a load at 2048 - 2048", x.step(), 0);
        CHECK.same("the byte at 0", x.register(7), 11);
        Asm.load(x, 0x100, Asm.i(0x03, 0, 7, 5, 2047));
        CHECK.same("step() of a load at 2048 + 2047", x.step(), 0);
        CHECK.same("the byte at 4095", x.register(7), 12);
    }

    private static void numberS() {
        for (int number : new int[] {0, 1, 15, 16, 31, 32, 33, 1023, 1024, 2046, 2047, -1, -2, -31, -32, -33, -1024, -2047, -2048}) {
            RiscHart x = Bench.hart(Asm.s(0, 5, 6, number), 0x3000, 0x77);
            CHECK.same("step() of a store by " + number, x.step(), 0);
            CHECK.same("the byte at 0x3000 + " + number, x.peek(0x3000 + number), 0x77);
        }
    }

    private static void upperNumber() {
        int[][] rows = {{0, 0}, {1, 0x1000}, {0x7ffff, 0x7ffff000}, {0x80000, MIN}, {0xfffff, -4096}, {0x12345, 0x12345000}};
        for (int[] row : rows) {
            RiscHart x = Bench.hart(Asm.u(0x37, 7, row[0]), 0, 0);
            x.set(7, 0xfff);
            CHECK.same("step()", x.step(), 0);
            CHECK.same("0x37 with " + row[0], x.register(7), row[1]);
        }
    }

    private static void placeAndUpperNumber() {
        for (int place : new int[] {0, 2, 0x102, 65532}) {
            for (int upper : new int[] {0, 1, 0x7ffff, 0x80000, 0xfffff}) {
                RiscHart x = new RiscHart();
                int word = Asm.u(0x17, 7, upper);
                for (int k = 0; k < 4; k++) {
                    x.poke(place + k, word >> 8 * k);
                }
                x.jump(place);
                CHECK.same("step()", x.step(), 0);
                CHECK.same("0x17 with " + upper + " at " + place, x.register(7), place + (upper << 12));
            }
        }
    }

    private static void jumpAndLink() {
        for (int offset : new int[] {0, 2, 4, 2046, 2048, 4094, 4096, 0xffffe, -2, -2048, -2050, -4096, -4098, -0x100000, -0xffffe}) {
            for (int d : new int[] {0, 1, 7, 31}) {
                RiscHart x = Bench.hart(Asm.j(d, offset), 0, 0);
                CHECK.same("step()", x.step(), 0);
                CHECK.same("place behind a jump by " + offset, x.count(0), Bench.PLACE + offset);
                CHECK.same("link in register " + d, x.register(d), d == 0 ? 0 : Bench.PLACE + 4);
            }
        }
    }

    private static void jumpToRegister() {
        int[][] rows = {{0x200, 0, 0x200}, {0x200, 2046, 0x200 + 2046}, {0x200, 2047, 0x200 + 2046}, {0x200, -2048, 0x200 - 2048}, {0, -1, -2}};
        for (int[] row : rows) {
            for (int d : new int[] {0, 5, 7}) {
                RiscHart x = Bench.hart(Asm.i(0x67, 0, d, 5, row[1]), row[0], 0);
                CHECK.same("step()", x.step(), 0);
                CHECK.same("place behind a jump to " + row[0] + " + " + row[1], x.count(0), row[2]);
                CHECK.same("link in register " + d, x.register(d), d == 0 ? 0 : Bench.PLACE + 4);
            }
        }
        for (int f = 1; f < 8; f++) {
            Bench.illegal(CHECK, Asm.i(0x67, f, 7, 5, 0));
        }
    }

    private static void branch(int f, int a, int b, boolean holds) {
        RiscHart x = Bench.hart(Asm.t(f, 5, 6, 64), a, b);
        CHECK.same("step()", x.step(), 0);
        CHECK.same("place behind F " + f + " of " + a + ", " + b, x.count(0), Bench.PLACE + (holds ? 64 : 4));
    }

    private static void branches() {
        int[][] less = {{0, 1}, {-1, 0}, {MIN, MAX}, {MIN, 0}, {MIN, -1}, {MAX - 1, MAX}, {-2, -1}};
        int[][] lessUnsigned = {{0, 1}, {0, -1}, {MAX, MIN}, {0, MIN}, {MIN, -1}, {MAX - 1, MAX}, {-2, -1}};
        for (int same : new int[] {0, 1, -1, MIN, MAX}) {
            for (int f : new int[] {0, 1, 4, 5, 6, 7}) {
                branch(f, same, same, f == 0 || f == 5 || f == 7);
            }
        }
        for (int[] pair : less) {
            branch(0, pair[0], pair[1], false);
            branch(1, pair[0], pair[1], true);
            branch(4, pair[0], pair[1], true);
            branch(4, pair[1], pair[0], false);
            branch(5, pair[0], pair[1], false);
            branch(5, pair[1], pair[0], true);
        }
        for (int[] pair : lessUnsigned) {
            branch(6, pair[0], pair[1], true);
            branch(6, pair[1], pair[0], false);
            branch(7, pair[0], pair[1], false);
            branch(7, pair[1], pair[0], true);
        }
    }

    private static void offsetT() {
        for (int offset : new int[] {0, 2, 16, 30, 32, 1024, 2046, 2048, 4094, -2, -16, -32, -34, -2048, -2050, -4094, -4096}) {
            RiscHart x = Bench.hart(Asm.t(0, 0, 0, offset), 0, 0);
            CHECK.same("step()", x.step(), 0);
            CHECK.same("place behind a branch by " + offset, x.count(0), Bench.PLACE + offset);
        }
    }

    private static void noOtherBranches() {
        for (int f : new int[] {2, 3}) {
            Bench.illegal(CHECK, Asm.t(f, 5, 5, 64));
            Bench.illegal(CHECK, Asm.t(f, 0, 5, 64));
        }
    }

    private static void loads() {
        int[][] rows = {{0, 0x7f, 0x7f}, {0, 0x80, -128}, {0, 0xff, -1}, {0, 0xff00, 0}, {4, 0x80, 0x80}, {4, 0xff, 0xff}, {4, 0xff00, 0},
            {1, 0x7fff, 0x7fff}, {1, 0x8000, -32768}, {1, 0xffff, -1}, {1, 0xffff0000, 0}, {5, 0x8000, 0x8000}, {5, 0xffff, 0xffff},
            {5, 0xffff0000, 0}, {2, MIN, MIN}, {2, MAX, MAX}, {2, -1, -1}};
        for (int[] row : rows) {
            RiscHart x = Bench.hart(Asm.i(0x03, row[0], 7, 5, 0), 0x3000, 0);
            x.set(7, 0x55555555);
            x.plant(0x3000, row[1]);
            CHECK.same("step()", x.step(), 0);
            CHECK.same("F " + row[0] + " of " + Integer.toHexString(row[1]), x.register(7), row[2]);
        }
    }

    private static void noOtherLoads() {
        for (int f : new int[] {3, 6, 7}) {
            Bench.illegal(CHECK, Asm.i(0x03, f, 7, 5, 0));
            Bench.illegal(CHECK, Asm.i(0x03, f, 0, 0, -1));
        }
    }

    private static void stores() {
        int[][] rows = {{0, 0x111111ff}, {1, 0x1111feff}, {2, 0xfcfdfeff}};
        for (int[] row : rows) {
            RiscHart x = Bench.hart(Asm.s(row[0], 5, 6, 0), 0x3000, 0xfcfdfeff);
            x.plant(0x2ffc, 0x11111111);
            x.plant(0x3000, 0x11111111);
            x.plant(0x3004, 0x11111111);
            CHECK.same("step()", x.step(), 0);
            CHECK.same("F " + row[0], Asm.word(x, 0x3000), row[1]);
            CHECK.same("the word before", Asm.word(x, 0x2ffc), 0x11111111);
            CHECK.same("the word behind", Asm.word(x, 0x3004), 0x11111111);
        }
    }

    private static void noOtherStores() {
        for (int f = 3; f < 8; f++) {
            Bench.illegal(CHECK, Asm.s(f, 5, 6, 0));
            Bench.illegal(CHECK, Asm.s(f, 0, 0, -1));
        }
    }

    private static void isLess() {
        numberRows("signed <", 2, new int[][] {{0, 0, 0}, {0, 1, 1}, {0, -1, 0}, {-1, 0, 1}, {MIN, -2048, 1}, {MAX, 2047, 0}, {-2048, -2048, 0},
            {-2049, -2048, 1}, {2047, 2047, 0}, {2046, 2047, 1}});
        numberRows("unsigned <", 3, new int[][] {{0, 0, 0}, {0, 1, 1}, {1, 1, 0}, {0, -1, 1}, {-1, -1, 0}, {-2, -1, 1}, {MAX, -2048, 1}, {MIN, -2048, 1},
            {-2048, -2048, 0}, {-2049, -2048, 1}, {MIN, 2047, 0}, {-1, 0, 0}, {2047, 2047, 0}, {4095, -1, 1}});
    }

    private static void bitsWithNumbers() {
        numberRows("^", 4, new int[][] {{0x0f0f0f0f, -1, 0xf0f0f0f0}, {-1, -2048, 2047}, {0, -2048, -2048}, {-1, 2047, -2048}});
        numberRows("|", 6, new int[][] {{0, -1, -1}, {0x0f0f0f0f, -2048, 0xffffff0f}, {MIN, 2047, MIN + 2047}});
        numberRows("&", 7, new int[][] {{-1, -1, -1}, {-1, 2047, 2047}, {0x12345fff, -2048, 0x12345800}, {-1, -2048, -2048}});
    }

    private static void shiftsByNumbers() {
        numberRows("<<", 1, new int[][] {{-1, 0, -1}, {1, 31, MIN}, {3, 31, MIN}, {MIN, 1, 0}});
        numberRows(">>>", 5, new int[][] {{-1, 0, -1}, {-1, 1, MAX}, {MIN, 31, 1}, {MAX, 31, 0}});
        numberRows(">>", 5, new int[][] {{-1, 1024, -1}, {-1, 1024 + 31, -1}, {MIN, 1024 + 31, -1}, {MIN, 1024 + 1, MIN / 2}, {MAX, 1024 + 31, 0}});
    }

    private static void noOtherShifts() {
        for (int g = 0; g < 128; g++) {
            for (int f : new int[] {1, 5}) {
                int word = Asm.i(0x13, f, 7, 5, g << 5 | 3);
                if (g == 0 || f == 5 && g == 32) {
                    Bench.legal(CHECK, word);
                } else {
                    Bench.illegal(CHECK, word);
                }
            }
        }
    }

    private static void isLessRegister() {
        rows("signed <", 0, 2, new int[][] {{0, 0, 0}, {MIN, MAX, 1}, {MAX, MIN, 0}, {-1, 0, 1}, {0, -1, 0}, {MIN, MIN, 0}, {MIN, MIN + 1, 1}});
        rows("unsigned <", 0, 3, new int[][] {{0, 0, 0}, {MIN, MAX, 0}, {MAX, MIN, 1}, {-1, 0, 0}, {0, -1, 1}, {-1, -1, 0}, {-2, -1, 1}});
    }

    private static void shiftsByRegisters() {
        rows("<<", 0, 1, new int[][] {{1, 0, 1}, {1, 31, MIN}, {1, 32, 1}, {1, 33, 2}, {1, -1, MIN}, {1, 64, 1}, {5, MIN, 5}});
        rows(">>>", 0, 5, new int[][] {{-1, 0, -1}, {-1, 31, 1}, {-1, 32, -1}, {-1, 33, MAX}, {-1, -1, 1}, {-1, 64, -1}, {5, MIN, 5}});
        rows(">>", 32, 5, new int[][] {{MIN, 0, MIN}, {MIN, 31, -1}, {MIN, 32, MIN}, {MIN, 33, MIN / 2}, {MIN, -1, -1}, {MAX, 31, 0}, {5, MIN, 5}});
    }

    private static void noOtherSums() {
        for (int g = 0; g < 128; g++) {
            for (int f = 0; f < 8; f++) {
                int word = Asm.r(g, f, 7, 5, 6);
                if (g < 2 || g == 32 && (f == 0 || f == 5)) {
                    Bench.legal(CHECK, word);
                } else {
                    Bench.illegal(CHECK, word);
                }
            }
        }
    }

    private static void lowerProduct() {
        rows("*", 1, 0, new int[][] {{0, -1, 0}, {-1, -1, 1}, {-1, 1, -1}, {MIN, MIN, 0}, {MIN, -1, MIN}, {MAX, MAX, 1}, {65536, 65536, 0},
            {65537, 65537, 0x20001}, {MIN, 3, MIN}});
    }

    private static void upperProductSigned() {
        rows("both signed", 1, 1, new int[][] {{0, -1, 0}, {-1, -1, 0}, {-1, 1, -1}, {1, -1, -1}, {MIN, MIN, 0x40000000}, {MIN, -1, 0}, {MIN, 1, -1},
            {MAX, MAX, 0x3fffffff}, {MIN, MAX, 0xc0000000}, {65536, 65536, 1}, {-65536, 65536, -1}, {65536, 32768, 0}});
    }

    private static void upperProductMixed() {
        rows("a signed, b unsigned", 1, 2, new int[][] {{0, -1, 0}, {-1, -1, -1}, {-1, 1, -1}, {1, -1, 0}, {MIN, MIN, 0xc0000000}, {MIN, -1, MIN},
            {MAX, -1, 0x7ffffffe}, {MAX, MIN, 0x3fffffff}, {2, -1, 1}, {-1, 0, 0}, {-2, MIN, -1}});
    }

    private static void upperProductUnsigned() {
        rows("both unsigned", 1, 3, new int[][] {{0, -1, 0}, {-1, -1, -2}, {-1, 1, 0}, {1, -1, 0}, {MIN, MIN, 0x40000000}, {MIN, -1, MAX}, {-1, MIN, MAX},
            {MIN, 2, 1}, {MAX, 2, 0}, {MAX, MAX, 0x3fffffff}});
    }

    private static void quotients() {
        rows("/", 1, 4, new int[][] {{7, 2, 3}, {-7, 2, -3}, {7, -2, -3}, {-7, -2, 3}, {1, 2, 0}, {-1, 2, 0}, {0, 5, 0}, {MIN, -1, MIN}, {MIN, 1, MIN},
            {MAX, -1, MIN + 1}, {MIN, MIN, 1}, {MAX, MIN, 0}, {MIN, MAX, -1}, {-1, MIN, 0}, {MIN, 2, MIN / 2}});
    }

    private static void quotientsUnsigned() {
        rows("unsigned /", 1, 5, new int[][] {{7, 2, 3}, {-7, 2, 0x7ffffffc}, {7, -2, 0}, {-1, -1, 1}, {-2, -1, 0}, {MIN, -1, 0}, {-1, MIN, 1},
            {-1, 1, -1}, {MIN, 1, MIN}, {MIN, 2, 0x40000000}, {0, -1, 0}, {MAX, MIN, 0}});
    }

    private static void remainders() {
        rows("remainder", 1, 6, new int[][] {{7, 2, 1}, {-7, 2, -1}, {7, -2, 1}, {-7, -2, -1}, {6, 3, 0}, {-6, 3, 0}, {MIN, -1, 0}, {MIN, 1, 0},
            {MIN, MAX, -1}, {MAX, MIN, MAX}, {MIN, MIN, 0}, {-1, MIN, -1}, {0, -5, 0}});
    }

    private static void remaindersUnsigned() {
        rows("unsigned remainder", 1, 7, new int[][] {{7, 2, 1}, {-7, 2, 1}, {7, -2, 7}, {-1, -1, 0}, {-2, -1, -2}, {MIN, -1, MIN}, {-1, MIN, MAX},
            {-1, 10, 5}, {MIN, 3, 2}, {0, -1, 0}});
    }

    private static void byZero() {
        for (int a : new int[] {0, 1, -1, 7, -7, MIN, MAX}) {
            result("/ 0", Asm.r(1, 4, 7, 5, 6), a, 0, -1);
            result("unsigned / 0", Asm.r(1, 5, 7, 5, 6), a, 0, -1);
            result("remainder 0", Asm.r(1, 6, 7, 5, 6), a, 0, a);
            result("unsigned remainder 0", Asm.r(1, 7, 7, 5, 6), a, 0, a);
            result("/ x0", Asm.r(1, 4, 7, 5, 0), a, 3, -1);
        }
    }

    private static void nothing() {
        for (int word : new int[] {0x0000000f, 0x0000100f, 0x0ff0000f, 0xffff8f8f, 0xffff9f8f, 0x0000038f, 0x0000138f}) {
            RiscHart x = Bench.hart(word, 0x3000, 0x3000);
            x.set(7, 9);
            long[] before = Traps.state(x, 0x3000, 16);
            CHECK.same("step() of " + Integer.toHexString(word), x.step(), 0);
            long[] behind = Traps.state(x, 0x3000, 16);
            before[32] += 4;
            before[33] += 1;
            for (int k = 0; k < before.length; k++) {
                CHECK.same("state " + k + " behind " + Integer.toHexString(word), behind[k], before[k]);
            }
        }
        for (int f = 2; f < 8; f++) {
            Bench.illegal(CHECK, 0x0f | f << 12);
            Bench.illegal(CHECK, 0xffff8f8f | f << 12);
        }
    }

    private static void wholeCallAndBreak() {
        Traps.ask(CHECK, "CALL", Bench.hart(0x00000073, 0, 0), Traps.CALL, 0);
        Traps.ask(CHECK, "BREAK", Bench.hart(0x00100073, 0, 0), Traps.BREAK, 0);
        for (int bit = 7; bit < 32; bit++) {
            if (bit != 20) {
                Bench.illegal(CHECK, 0x00000073 | 1 << bit);
                Bench.illegal(CHECK, 0x00100073 | 1 << bit);
            }
        }
        Bench.illegal(CHECK, 0x00300073);
    }

    private static void readsCounters() {
        for (int which : COUNTERS) {
            for (int f = 0; f < 8; f++) {
                for (int a : new int[] {0, 1, 5, 16, 31}) {
                    int word = Asm.counter(f, 7, a, which);
                    if ((f == 2 || f == 3 || f == 6 || f == 7) && a == 0) {
                        Bench.legal(CHECK, word);
                    } else {
                        Bench.illegal(CHECK, word);
                    }
                }
            }
        }
    }

    private static int counter(int f, int which, int stepsBefore) {
        RiscHart x = Bench.hart(Asm.counter(f, 7, 0, which), 0, 0);
        x.set(7, -9);
        x.clock(0x8000000190000002L);
        x.plant(0, Asm.j(0, 0));
        x.jump(0);
        CHECK.same("steps before", x.run(stepsBefore), stepsBefore);
        x.jump(Bench.PLACE);
        CHECK.same("step()", x.step(), 0);
        return x.register(7);
    }

    private static void countsRetired() {
        for (int f : new int[] {2, 3, 6, 7}) {
            for (int steps : new int[] {0, 1, 2000}) {
                CHECK.same("0xc00 behind " + steps, counter(f, 0xc00, steps), steps);
                CHECK.same("0xc02 behind " + steps, counter(f, 0xc02, steps), steps);
                CHECK.same("0xc80 behind " + steps, counter(f, 0xc80, steps), 0);
                CHECK.same("0xc82 behind " + steps, counter(f, 0xc82, steps), 0);
            }
        }
    }

    private static void tellsClock() {
        for (int f : new int[] {2, 3, 6, 7}) {
            CHECK.same("0xc01", counter(f, 0xc01, 5), 0x90000002);
            CHECK.same("0xc81", counter(f, 0xc81, 5), 0x80000001);
        }
    }

    private static boolean isCounter(int which) {
        for (int counter : COUNTERS) {
            if (counter == which) {
                return true;
            }
        }
        return false;
    }

    private static void noOtherCounters() {
        for (int which = 0; which < 4096; which++) {
            if (!isCounter(which)) {
                for (int f : new int[] {2, 3, 6, 7}) {
                    Bench.illegal(CHECK, Asm.counter(f, which % 32, 0, which));
                }
            }
        }
    }

    private static void noOtherOpcodes() {
        for (int opcode = 3; opcode < 128; opcode += 4) {
            switch (opcode) {
                case 0x37: case 0x17: case 0x6f: case 0x67: case 0x63: case 0x03: case 0x23: case 0x13: case 0x33: case 0x2f: case 0x0f: case 0x73:
                    break;
                default:
                    Bench.illegal(CHECK, opcode);
                    Bench.illegal(CHECK, opcode | 0x2000);
                    Bench.illegal(CHECK, opcode | 0xffffff80);
                    break;
            }
        }
    }
}
