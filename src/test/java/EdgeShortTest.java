/** The sentences of the section "Terms" on the short ones that name an edge, each with a test of its own. */
public final class EdgeShortTest {
    private static final Check CHECK = new Check();
    private static final int MIN = Integer.MIN_VALUE;
    private static final int MAX = Integer.MAX_VALUE;
    private static final int STACK = 0x3000;
    private static final int NEAR = 0x4000;

    public static void main(String[] args) {
        CHECK.sentence("SHORT ONES do what a long one does (but for the length).", EdgeShortTest::lengthOfTwo);
        CHECK.sentence("d' and s' are the registers 8 + bits 2 .. 4, a' 8 + bits 7 .. 9", EdgeShortTest::nearRegisters);
        CHECK.sentence("N is signed: bit 12, then bits 2 .. 6.", EdgeShortTest::numbersAreSigned);
        CHECK.sentence("Q 0: F 0 d' = x2 + U, bits 5 .. 12: U[5:4|9:6|2|3]", EdgeShortTest::stackNumber);
        CHECK.sentence("Q 0: F 0: U not 0", EdgeShortTest::stackNumberNotZero);
        CHECK.sentence("F 2 d' = word at a' + U, F 6 word at a' + U = s': bits 10 .. 12 U[5:3], bit 6 U[2], bit 5 U[6].", EdgeShortTest::nearAccess);
        CHECK.sentence("Q 0: all others are illegal", EdgeShortTest::noOthersOfQ0);
        CHECK.sentence("Q 1: F 0 x D += N.", EdgeShortTest::addNumber);
        CHECK.sentence("F 1 as jump and link with D 1, F 5 with D 0: bits 2 .. 12 J[11|4|9:8|10|6|7|3:1|5], signed.", EdgeShortTest::jumps);
        CHECK.sentence("F 2 x D = N.", EdgeShortTest::giveNumber);
        CHECK.sentence("F 3, D 2: x2 += bits 12, 2 .. 6: [9] and [4|6|8:7|5], signed", EdgeShortTest::moveStack);
        CHECK.sentence("F 3, D 2: not 0", EdgeShortTest::moveStackNotZero);
        CHECK.sentence("another D: x D = N << 12", EdgeShortTest::upperNumber);
        CHECK.sentence("another D: N not 0", EdgeShortTest::upperNumberNotZero);
        CHECK.sentence("F 4, bits 10, 11: 0 a' >>> and 1 a' >> by bits 12 and 2 .. 6 as a number", EdgeShortTest::shiftsToTheRight);
        CHECK.sentence("a' >>> and a' >>: bit 12 being 0", EdgeShortTest::shiftsToTheRightOfBit12);
        CHECK.sentence("2 a' & N", EdgeShortTest::andNumber);
        CHECK.sentence("3, bits 5, 6: 0 a' - s', 1 ^, 2 |, 3 &; the result goes to a'.", EdgeShortTest::ofTwo);
        CHECK.sentence("3, bit 12 being 0", EdgeShortTest::ofTwoOfBit12);
        CHECK.sentence("F 6, 7: to place + T if a' is 0, or is not", EdgeShortTest::branches);
        CHECK.sentence("bits 10 .. 12 T[8|4:3], bits 2 .. 6 T[7:6|2:1|5], signed.", EdgeShortTest::offsetT);
        CHECK.sentence("Q 2: F 0 x D <<= bits 12 and 2 .. 6", EdgeShortTest::shiftsToTheLeft);
        CHECK.sentence("Q 2: F 0: bit 12 being 0.", EdgeShortTest::shiftsToTheLeftOfBit12);
        CHECK.sentence("F 2 x D = word at x2 + U: bit 12 U[5], bits 2 .. 6 U[4:2|7:6]", EdgeShortTest::stackLoads);
        CHECK.sentence("F 2: D not 0.", EdgeShortTest::stackLoadsNotOfZero);
        CHECK.sentence("F 4, bit 12 0: B 0: jump to x D", EdgeShortTest::jumpsToRegisters);
        CHECK.sentence("B 0: jump to x D, D not 0", EdgeShortTest::jumpsNotToZero);
        CHECK.sentence("else x D = x B.", EdgeShortTest::moves);
        CHECK.sentence("Bit 12 1: D 0 and B 0 BREAK", EdgeShortTest::breaks);
        CHECK.sentence("B 0: x1 = place + 2, jump to x D", EdgeShortTest::linksAndJumps);
        CHECK.sentence("else x D += x B.", EdgeShortTest::adds);
        CHECK.sentence("F 6: word at x2 + U = x B: bits 7 .. 12 U[5:2|7:6].", EdgeShortTest::stackStores);
        CHECK.sentence("Q 1 and Q 2: All others are illegal.", EdgeShortTest::noOthersOfQ2);
        CHECK.sentence("and a half of 0, are illegal.", EdgeShortTest::halfOfZero);
        CHECK.sentence("(D 0 and N 0 are no fault where nothing is said.)", EdgeShortTest::zerosThatAreNoFault);
        CHECK.end();
    }

    /** Every register r but x0 and x2 has 0x4000 + 16 * r, x2 has 0x3000; ones lie behind the half. */
    private static RiscHart hart(int half) {
        RiscHart x = new RiscHart();
        for (int r = 1; r < 32; r++) {
            x.set(r, NEAR + 16 * r);
        }
        x.set(2, STACK);
        Asm.load(x, Bench.PLACE, half | 0xffff0000);
        return x;
    }

    private static int had(int r) {
        return r == 0 ? 0 : r == 2 ? STACK : NEAR + 16 * r;
    }

    /** Carries the half out: register d has what is due, and the others what they had. */
    private static void gives(String what, RiscHart x, int d, int due) {
        long[] before = Traps.state(x, STACK, 16);
        CHECK.same("step() of " + what, x.step(), 0);
        long[] behind = Traps.state(x, STACK, 16);
        before[32] += 2;
        before[33] += 1;
        before[d] = due;
        for (int k = 0; k < before.length; k++) {
            CHECK.same((k < 32 ? "register " : "state ") + k + " behind " + what, behind[k], before[k]);
        }
    }

    private static void gives(String what, int half, int d, int due) {
        gives(what, hart(half), d, due);
    }

    private static void illegal(int half) {
        Traps.ask(CHECK, "half " + Integer.toHexString(half), hart(half), Traps.ILLEGAL, half);
    }

    private static void legal(int half) {
        CHECK.same("step() of half " + Integer.toHexString(half), hart(half).step(), 0);
    }

    private static int withNumber(int q, int f, int d, int n) {
        return Half.of(q, f, n >> 5 & 1, d, n & 31);
    }

    private static int arithmetic(int bit12, int kind, int near, int b) {
        return Half.of(1, 4, bit12, kind << 3 | near, b);
    }

    private static int jump(int f, int offset) {
        return 1 | f << 13 | Half.write(offset, 12, "11|4|9:8|10|6|7|3:1|5");
    }

    private static int branch(int f, int near, int offset) {
        return 1 | f << 13 | near << 7 | Half.write(offset, 12, "8|4:3") | Half.write(offset, 6, "7:6|2:1|5");
    }

    private static int stackMove(int move) {
        return Half.of(1, 3, 0, 2, 0) | Half.write(move, 12, "9") | Half.write(move, 6, "4|6|8:7|5");
    }

    private static int nearAccess(int f, int low, int high, int offset) {
        return f << 13 | low << 2 | high << 7 | Half.write(offset, 12, "5:3") | Half.write(offset, 6, "2|6");
    }

    private static int stackLoad(int d, int offset) {
        return Half.of(2, 2, 0, d, 0) | Half.write(offset, 12, "5") | Half.write(offset, 6, "4:2|7:6");
    }

    private static int stackStore(int b, int offset) {
        return Half.of(2, 6, 0, 0, b) | Half.write(offset, 12, "5:2|7:6");
    }

    /** The half that ends at a closed page, and at the last byte, is carried out: nothing behind it is asked. */
    private static void lengthOfTwo() {
        RiscHart x = new RiscHart();
        x.plant(1020, withNumber(1, 2, 7, 5) << 16);
        x.rights(1, 0);
        x.jump(1022);
        CHECK.same("step() before a closed page", x.step(), 0);
        CHECK.same("place", x.count(0), 1024);
        CHECK.same("x7", x.register(7), 5);
        RiscHart y = new RiscHart();
        y.plant(65532, jump(1, -2) << 16);
        y.jump(65534);
        CHECK.same("step() at the last half", y.step(), 0);
        CHECK.same("place", y.count(0), 65532);
        CHECK.same("link", y.register(1), 65536);
        RiscHart z = new RiscHart();
        z.plant(0x100, withNumber(1, 0, 7, 1) | withNumber(1, 0, 7, 2) << 16);
        z.plant(0x104, withNumber(1, 0, 7, 4));
        z.jump(0x100);
        CHECK.same("run(3)", z.run(3), 3);
        CHECK.same("retired", z.count(3), 3);
        CHECK.same("x7", z.register(7), 7);
        CHECK.same("place", z.count(0), 0x106);
    }

    private static void nearRegisters() {
        for (int low = 0; low < 8; low++) {
            gives("x2 + 4", Half.write(4, 12, "5:4|9:6|2|3") | low << 2, 8 + low, STACK + 4);
            for (int high = 0; high < 8; high++) {
                gives("a' - s'", arithmetic(0, 3, high, low), 8 + high, 16 * (high - low));
            }
        }
    }

    private static void numbersAreSigned() {
        for (int n = -32; n < 32; n++) {
            gives("x7 = " + n, withNumber(1, 2, 7, n), 7, n);
            gives("x7 += " + n, withNumber(1, 0, 7, n), 7, had(7) + n);
            gives("x9 & " + n, arithmetic(n >> 5 & 1, 2, 1, n & 31), 9, had(9) & n);
            if (n != 0) {
                gives("x7 = " + n + " << 12", withNumber(1, 3, 7, n), 7, n * 4096);
            }
        }
    }

    private static void stackNumber() {
        for (int number = 4; number < 1024; number += 4) {
            int half = Half.write(number, 12, "5:4|9:6|2|3");
            gives("x2 + " + number, half, 8, STACK + number);
        }
        for (int near = 0; near < 8; near++) {
            RiscHart x = hart(Half.write(1020, 12, "5:4|9:6|2|3") | near << 2);
            x.set(2, MAX);
            gives("MAX + 1020", x, 8 + near, MIN + 1019);
        }
    }

    private static void stackNumberNotZero() {
        for (int near = 0; near < 8; near++) {
            illegal(near << 2);
        }
        for (int bit = 2; bit < 10; bit++) {
            legal(Half.write(1 << bit, 12, "5:4|9:6|2|3"));
        }
    }

    private static void nearAccess() {
        for (int offset = 0; offset < 128; offset += 4) {
            RiscHart x = hart(nearAccess(2, 2, 1, offset));
            x.plant(had(9) + offset, 0x80000000 + offset);
            gives("a load by " + offset, x, 10, 0x80000000 + offset);
            RiscHart y = hart(nearAccess(6, 2, 1, offset));
            gives("a store by " + offset, y, 0, 0);
            CHECK.same("the word by " + offset, Asm.word(y, had(9) + offset), had(10));
        }
        RiscHart same = hart(nearAccess(2, 1, 1, 124));
        same.plant(had(9) + 124, 77);
        gives("a load into its own base", same, 9, 77);
        for (int f : new int[] {2, 6}) {
            int missing = f == 2 ? Traps.LOAD : Traps.STORE;
            RiscHart x = hart(nearAccess(f, 2, 1, 124));
            x.set(9, 65536 - 124);
            Traps.ask(CHECK, "F " + f + " behind the last word", x, missing, 65536);
            x.set(9, 65532 - 124);
            CHECK.same("F " + f + " at the last word", x.step(), 0);
            RiscHart y = hart(nearAccess(f, 2, 1, 0));
            y.set(9, 0x3002);
            Traps.ask(CHECK, "F " + f + " between words", y, Traps.MISALIGNED, 0x3002);
            RiscHart z = hart(nearAccess(f, 2, 1, 0));
            z.rights(had(9) / 1024, f == 2 ? 6 : 5);
            Traps.ask(CHECK, "F " + f + " of a closed page", z, missing, had(9));
        }
    }

    private static void noOthersOfQ0() {
        for (int f : new int[] {1, 3, 4, 5, 7}) {
            for (int rest = 0; rest < 0x2000; rest += 4) {
                illegal(f << 13 | rest);
            }
        }
    }

    private static void addNumber() {
        for (int d : new int[] {1, 2, 7, 31}) {
            for (int n : new int[] {-32, -1, 0, 1, 31}) {
                gives("x" + d + " += " + n, withNumber(1, 0, d, n), d, had(d) + n);
            }
        }
        RiscHart x = hart(withNumber(1, 0, 7, 1));
        x.set(7, MAX);
        gives("MAX + 1", x, 7, MIN);
    }

    private static void goesTo(String what, RiscHart x, int place, int link) {
        CHECK.same("step() of " + what, x.step(), 0);
        CHECK.same("place behind " + what, x.count(0), place);
        CHECK.same("x1 behind " + what, x.register(1), link);
        CHECK.same("x0 behind " + what, x.register(0), 0);
    }

    private static void jumps() {
        for (int offset = -2048; offset < 2048; offset += 2) {
            goesTo("F 1 by " + offset, hart(jump(1, offset)), Bench.PLACE + offset, Bench.PLACE + 2);
            goesTo("F 5 by " + offset, hart(jump(5, offset)), Bench.PLACE + offset, had(1));
        }
    }

    private static void giveNumber() {
        for (int d : new int[] {1, 2, 7, 31}) {
            for (int n : new int[] {-32, -1, 0, 1, 31}) {
                gives("x" + d + " = " + n, withNumber(1, 2, d, n), d, n);
            }
        }
    }

    private static void moveStack() {
        for (int move = -512; move < 512; move += 16) {
            if (move != 0) {
                gives("x2 += " + move, stackMove(move), 2, STACK + move);
            }
        }
        RiscHart x = hart(stackMove(-512));
        x.set(2, MIN);
        gives("MIN - 512", x, 2, MAX - 511);
    }

    private static void moveStackNotZero() {
        illegal(0x6101);
        for (int bit = 4; bit < 10; bit++) {
            legal(stackMove(1 << bit));
        }
    }

    private static void upperNumber() {
        for (int d = 1; d < 32; d++) {
            if (d != 2) {
                gives("x" + d + " = 31 << 12", withNumber(1, 3, d, 31), d, 0x1f000);
                gives("x" + d + " = 1 << 12", withNumber(1, 3, d, 1), d, 0x1000);
                gives("x" + d + " = -1 << 12", withNumber(1, 3, d, -1), d, -4096);
                gives("x" + d + " = -32 << 12", withNumber(1, 3, d, -32), d, -131072);
            }
        }
    }

    private static void upperNumberNotZero() {
        for (int d = 0; d < 32; d++) {
            if (d != 2) {
                illegal(withNumber(1, 3, d, 0));
                for (int bit = 0; bit < 6; bit++) {
                    legal(withNumber(1, 3, d, 1 << bit));
                }
            }
        }
    }

    private static void shiftsToTheRight() {
        for (int many = 0; many < 32; many++) {
            for (int number : new int[] {-1, MIN, MAX, 0x55555555}) {
                RiscHart x = hart(arithmetic(0, 0, 1, many));
                x.set(9, number);
                gives(number + " >>> " + many, x, 9, (int) ((number & 0xffffffffL) / (1L << many)));
                RiscHart y = hart(arithmetic(0, 1, 1, many));
                y.set(9, number);
                gives(number + " >> " + many, y, 9, (int) Math.floorDiv((long) number, 1L << many));
            }
        }
    }

    private static void shiftsToTheRightOfBit12() {
        for (int near = 0; near < 8; near++) {
            for (int many = 0; many < 32; many++) {
                for (int kind = 0; kind < 2; kind++) {
                    illegal(arithmetic(1, kind, near, many));
                    legal(arithmetic(0, kind, near, many));
                }
            }
        }
    }

    private static void andNumber() {
        for (int n : new int[] {-32, -1, 0, 1, 31}) {
            for (int number : new int[] {-1, MIN, MAX, 0x5555}) {
                RiscHart x = hart(arithmetic(n >> 5 & 1, 2, 1, n & 31));
                x.set(9, number);
                gives(number + " & " + n, x, 9, number & n);
            }
        }
    }

    private static void ofTwo() {
        int[][] pairs = {{0, 0}, {MIN, 1}, {MAX, -1}, {0x0ff0, 0x00ff}, {-1, MIN}, {5, 9}};
        for (int[] pair : pairs) {
            int a = pair[0];
            int s = pair[1];
            int[] due = {a - s, a ^ s, a | s, a & s};
            for (int kind = 0; kind < 4; kind++) {
                RiscHart x = hart(arithmetic(0, 3, 1, kind << 3 | 2));
                x.set(9, a);
                x.set(10, s);
                gives("kind " + kind + " of " + a + ", " + s, x, 9, due[kind]);
            }
        }
        int[] ofTheSame = {0, 0, had(9), had(9)};
        for (int kind = 0; kind < 4; kind++) {
            gives("kind " + kind + " of the same", arithmetic(0, 3, 1, kind << 3 | 1), 9, ofTheSame[kind]);
        }
    }

    private static void ofTwoOfBit12() {
        for (int near = 0; near < 8; near++) {
            for (int b = 0; b < 32; b++) {
                illegal(arithmetic(1, 3, near, b));
                legal(arithmetic(0, 3, near, b));
            }
        }
    }

    private static void branches() {
        for (int near = 0; near < 8; near++) {
            for (int number : new int[] {0, 1, -1, MIN, MAX, 65536}) {
                RiscHart x = hart(branch(6, near, 64));
                x.set(8 + near, number);
                goesTo("F 6 of " + number, x, Bench.PLACE + (number == 0 ? 64 : 2), had(1));
                RiscHart y = hart(branch(7, near, 64));
                y.set(8 + near, number);
                goesTo("F 7 of " + number, y, Bench.PLACE + (number == 0 ? 2 : 64), had(1));
            }
        }
    }

    private static void offsetT() {
        for (int offset = -256; offset < 256; offset += 2) {
            RiscHart x = hart(branch(6, 1, offset));
            x.set(9, 0);
            goesTo("F 6 by " + offset, x, Bench.PLACE + offset, had(1));
            goesTo("F 7 by " + offset, hart(branch(7, 1, offset)), Bench.PLACE + offset, had(1));
        }
    }

    private static void shiftsToTheLeft() {
        for (int d : new int[] {1, 2, 7, 31}) {
            for (int many = 0; many < 32; many++) {
                gives("x" + d + " <<= " + many, Half.of(2, 0, 0, d, many), d, (int) (had(d) * (1L << many)));
            }
        }
        RiscHart x = hart(Half.of(2, 0, 0, 7, 31));
        x.set(7, -1);
        gives("-1 << 31", x, 7, MIN);
    }

    private static void shiftsToTheLeftOfBit12() {
        for (int d = 0; d < 32; d++) {
            for (int many = 0; many < 32; many++) {
                illegal(Half.of(2, 0, 1, d, many));
                legal(Half.of(2, 0, 0, d, many));
            }
        }
    }

    private static void stackLoads() {
        for (int offset = 0; offset < 256; offset += 4) {
            RiscHart x = hart(stackLoad(7, offset));
            x.plant(STACK + offset, 0x80000000 + offset);
            gives("a load by " + offset, x, 7, 0x80000000 + offset);
        }
        RiscHart same = hart(stackLoad(2, 252));
        same.plant(STACK + 252, 99);
        gives("a load into x2", same, 2, 99);
        stackEnds(stackLoad(7, 252), stackLoad(7, 0), 6, Traps.LOAD);
    }

    /** Of an access by 252 and one by 0: at the ends of the bytes, between words and where the page has these rights alone. */
    private static void stackEnds(int farHalf, int nearHalf, int rights, int missing) {
        RiscHart y = hart(farHalf);
        y.set(2, 65536 - 252);
        Traps.ask(CHECK, "behind the last word", y, missing, 65536);
        y.set(2, 65532 - 252);
        CHECK.same("step() at the last word", y.step(), 0);
        RiscHart z = hart(nearHalf);
        for (int low = 1; low < 4; low++) {
            z.set(2, STACK + low);
            Traps.ask(CHECK, "between words", z, Traps.MISALIGNED, STACK + low);
        }
        z.set(2, STACK);
        z.rights(STACK / 1024, rights);
        Traps.ask(CHECK, "a closed page", z, missing, STACK);
    }

    private static void stackLoadsNotOfZero() {
        for (int offset = 0; offset < 256; offset += 4) {
            illegal(stackLoad(0, offset));
        }
        for (int d = 1; d < 32; d++) {
            legal(stackLoad(d, 0));
        }
    }

    private static void jumpsToRegisters() {
        for (int d = 1; d < 32; d++) {
            goesTo("a jump to x" + d, hart(Half.of(2, 4, 0, d, 0)), had(d), had(1));
        }
        for (int number : new int[] {1, -1, MIN, MAX, 65536}) {
            RiscHart x = hart(Half.of(2, 4, 0, 7, 0));
            x.set(7, number);
            goesTo("a jump to " + number, x, number & -2, had(1));
        }
    }

    private static void jumpsNotToZero() {
        illegal(0x8002);
    }

    private static void moves() {
        for (int b = 1; b < 32; b++) {
            gives("x7 = x" + b, Half.of(2, 4, 0, 7, b), 7, had(b));
            gives("x" + b + " = x7", Half.of(2, 4, 0, b, 7), b, had(7));
        }
    }

    private static void breaks() {
        RiscHart x = hart(0x9002);
        x.jump(5);
        CHECK.same("step() at 5", x.step(), 1);
        x.jump(Bench.PLACE);
        Traps.ask(CHECK, "half 9002", x, Traps.BREAK, 0);
        for (int other = 1; other < 32; other++) {
            legal(Half.of(2, 4, 1, 0, other));
            legal(Half.of(2, 4, 1, other, 0));
        }
    }

    private static void linksAndJumps() {
        for (int d = 1; d < 32; d++) {
            goesTo("a jump with link to x" + d, hart(Half.of(2, 4, 1, d, 0)), had(d), Bench.PLACE + 2);
        }
        for (int number : new int[] {1, -1, MIN, MAX, 65536}) {
            RiscHart x = hart(Half.of(2, 4, 1, 1, 0));
            x.set(1, number);
            goesTo("a jump with link to " + number, x, number & -2, Bench.PLACE + 2);
        }
    }

    private static void adds() {
        for (int b = 1; b < 32; b++) {
            gives("x7 += x" + b, Half.of(2, 4, 1, 7, b), 7, had(7) + had(b));
            gives("x" + b + " += x" + b, Half.of(2, 4, 1, b, b), b, 2 * had(b));
        }
        RiscHart x = hart(Half.of(2, 4, 1, 7, 8));
        x.set(7, MAX);
        x.set(8, 1);
        gives("MAX + 1", x, 7, MIN);
    }

    private static void stackStores() {
        for (int offset = 0; offset < 256; offset += 4) {
            RiscHart x = hart(stackStore(7, offset));
            x.plant(STACK + offset, -1);
            CHECK.same("step() of a store by " + offset, x.step(), 0);
            CHECK.same("the word by " + offset, Asm.word(x, STACK + offset), had(7));
            CHECK.same("place", x.count(0), Bench.PLACE + 2);
        }
        for (int b = 0; b < 32; b++) {
            RiscHart x = hart(stackStore(b, 8));
            x.plant(STACK + 8, -1);
            CHECK.same("step() of a store of x" + b, x.step(), 0);
            CHECK.same("the word of x" + b, Asm.word(x, STACK + 8), had(b));
        }
        stackEnds(stackStore(7, 252), stackStore(7, 0), 5, Traps.STORE);
    }

    /** Of Q 1, every F has instructions; of Q 2, these have none. */
    private static void noOthersOfQ2() {
        for (int f : new int[] {1, 3, 5, 7}) {
            for (int rest = 0; rest < 0x2000; rest += 4) {
                illegal(2 | f << 13 | rest);
            }
        }
    }

    private static void halfOfZero() {
        RiscHart x = new RiscHart();
        Traps.ask(CHECK, "a new object's first half", x, Traps.ILLEGAL, 0);
        for (int upper : new int[] {1, 0x8000, 0xffff}) {
            RiscHart y = new RiscHart();
            Asm.load(y, Bench.PLACE, upper << 16);
            Traps.ask(CHECK, "a half of 0 before others", y, Traps.ILLEGAL, 0);
        }
    }

    private static void zerosThatAreNoFault() {
        for (int n : new int[] {-32, -1, 0, 1, 31}) {
            gives("x0 += " + n, withNumber(1, 0, 0, n), 0, 0);
            gives("x0 = " + n, withNumber(1, 2, 0, n), 0, 0);
            if (n != 0) {
                gives("x0 = " + n + " << 12", withNumber(1, 3, 0, n), 0, 0);
            }
        }
        gives("x7 += 0", withNumber(1, 0, 7, 0), 7, had(7));
        gives("x7 = 0", withNumber(1, 2, 7, 0), 7, 0);
        gives("x9 & 0", arithmetic(0, 2, 1, 0), 9, 0);
        gives("x9 >>> 0", arithmetic(0, 0, 1, 0), 9, had(9));
        gives("x9 >> 0", arithmetic(0, 1, 1, 0), 9, had(9));
        gives("x7 <<= 0", Half.of(2, 0, 0, 7, 0), 7, had(7));
        gives("x0 <<= 0", Half.of(2, 0, 0, 0, 0), 0, 0);
        gives("x0 <<= 5", Half.of(2, 0, 0, 0, 5), 0, 0);
        gives("x0 = x7", Half.of(2, 4, 0, 0, 7), 0, 0);
        gives("x0 += x7", Half.of(2, 4, 1, 0, 7), 0, 0);
        goesTo("a jump by 0", hart(jump(5, 0)), Bench.PLACE, had(1));
        goesTo("a jump with link by 0", hart(jump(1, 0)), Bench.PLACE, Bench.PLACE + 2);
        goesTo("a branch by 0", hart(branch(7, 1, 0)), Bench.PLACE, had(1));
        RiscHart x = hart(nearAccess(2, 2, 1, 0));
        x.plant(had(9), 5);
        gives("a load by 0", x, 10, 5);
        gives("a load on the stack by 0", stackLoad(7, 0), 7, 0);
    }
}
