/** The sentences of the section "Terms" on the atomic ones and the reservation that name an edge, each with a test of its own. */
public final class EdgeAtomicTest {
    private static final Check CHECK = new Check();
    private static final int MIN = Integer.MIN_VALUE;
    private static final int MAX = Integer.MAX_VALUE;
    private static final int AT = 0x3000;
    private static final int[] CHANGES = {0, 1, 4, 8, 12, 16, 20, 24, 28};

    public static void main(String[] args) {
        CHECK.sentence("0x2f, F 2", EdgeAtomicTest::noOtherF);
        CHECK.sentence("with K the upper five bits of G: no other K", EdgeAtomicTest::noOtherK);
        CHECK.sentence("(the lower two may be any)", EdgeAtomicTest::lowerBitsOfG);
        CHECK.sentence("K 2, B 0", EdgeAtomicTest::loadReservedOfB);
        CHECK.sentence("the word: d, and the word is RESERVED", EdgeAtomicTest::reserves);
        CHECK.sentence("(in place of another one)", EdgeAtomicTest::reservesInPlace);
        CHECK.sentence("K 3: if the word is reserved, it becomes b and d is 0", EdgeAtomicTest::storesWhereReserved);
        CHECK.sentence("else d is 1", EdgeAtomicTest::storesNowhereElse);
        CHECK.sentence("nothing is reserved then.", EdgeAtomicTest::nothingIsReservedThen);
        CHECK.sentence("Others: d is the word (signed)", EdgeAtomicTest::formerWord);
        CHECK.sentence("K 1 b, 0 word + b, 4 word ^ b, 12 word & b, 8 word | b", EdgeAtomicTest::plainChanges);
        CHECK.sentence("16 the less, 20 the greater", EdgeAtomicTest::lessAndGreater);
        CHECK.sentence("24 and 28 likewise unsigned.", EdgeAtomicTest::lessAndGreaterUnsigned);
        CHECK.sentence("Whatever writes a byte of the reserved word - a store", EdgeAtomicTest::storesEndIt);
        CHECK.sentence("a store, of the short ones too", EdgeAtomicTest::shortStoresEndIt);
        CHECK.sentence("another atomic one", EdgeAtomicTest::atomicsEndIt);
        CHECK.sentence("poke()", EdgeAtomicTest::pokesEndIt);
        CHECK.sentence("plant()", EdgeAtomicTest::plantsEndIt);
        CHECK.sentence("ends that, too: nothing else does", EdgeAtomicTest::nothingElseEndsIt);
        CHECK.sentence("a trap does not end it", EdgeAtomicTest::trapsDoNotEndIt);
        CHECK.end();
    }

    /** A hart with the address in x5, b in x6 and a word there. */
    private static RiscHart hart(int word, int b) {
        return Bench.withWord(AT, word, b);
    }

    private static void carryOut(RiscHart x, int word) {
        Asm.load(x, Bench.PLACE, word);
        CHECK.same("step() of " + Integer.toHexString(word), x.step(), 0);
    }

    private static RiscHart reserving(int word, int b) {
        RiscHart x = hart(word, b);
        carryOut(x, Asm.atomic(Asm.LR, 7, 5, 0));
        CHECK.same("reserved", x.count(4), AT);
        return x;
    }

    private static void storesIf(String what, RiscHart x, boolean reserved) {
        CHECK.same("reserved, " + what, x.count(4), reserved ? AT : -1);
        int before = Asm.word(x, AT);
        x.set(5, AT);
        x.set(6, ~before);
        carryOut(x, Asm.atomic(Asm.SC, 7, 5, 6));
        CHECK.same("d of a store conditional, " + what, x.register(7), reserved ? 0 : 1);
        CHECK.same("its word, " + what, Asm.word(x, AT), reserved ? ~before : before);
    }

    private static void noOtherF() {
        for (int f = 0; f < 8; f++) {
            for (int k : new int[] {0, 1, 2, 3, 4, 8, 12, 16, 20, 24, 28}) {
                int word = Asm.atomic(k, 7, 5, 0) & ~0x7000 | f << 12;
                if (f == 2) {
                    Bench.legal(CHECK, word);
                } else {
                    Bench.illegal(CHECK, word);
                }
            }
        }
    }

    private static void noOtherK() {
        for (int k = 0; k < 32; k++) {
            boolean isLegal = k % 4 == 0 || k < 4;
            if (isLegal) {
                Bench.legal(CHECK, Asm.atomic(k, 7, 5, 0));
            } else {
                Bench.illegal(CHECK, Asm.atomic(k, 7, 5, 0));
                Bench.illegal(CHECK, Asm.atomic(k, 7, 5, 6) | 3 << 25);
            }
        }
    }

    private static void lowerBitsOfG() {
        for (int low = 0; low < 4; low++) {
            for (int k : CHANGES) {
                RiscHart x = hart(40, 2);
                carryOut(x, Asm.atomic(k, 7, 5, 6) | low << 25);
                CHECK.same("d", x.register(7), 40);
            }
            RiscHart y = hart(40, 2);
            carryOut(y, Asm.atomic(Asm.LR, 7, 5, 0) | low << 25);
            CHECK.same("reserved", y.count(4), AT);
            carryOut(y, Asm.atomic(Asm.SC, 7, 5, 6) | low << 25);
            CHECK.same("word", Asm.word(y, AT), 2);
        }
    }

    private static void loadReservedOfB() {
        for (int low = 0; low < 4; low++) {
            for (int b = 1; b < 32; b++) {
                Bench.illegal(CHECK, Asm.atomic(Asm.LR, 7, 5, b) | low << 25);
            }
            Bench.legal(CHECK, Asm.atomic(Asm.LR, 7, 5, 0) | low << 25);
        }
    }

    private static void reserves() {
        for (int word : new int[] {0, 1, -1, MIN, MAX}) {
            RiscHart x = reserving(word, 0);
            CHECK.same("d", x.register(7), word);
            CHECK.same("the word stays", Asm.word(x, AT), word);
        }
        for (int address : new int[] {0, 4, 1020, 1024, 65528, 65532}) {
            RiscHart x = new RiscHart();
            x.set(5, address);
            carryOut(x, Asm.atomic(Asm.LR, 7, 5, 0));
            CHECK.same("reserved", x.count(4), address);
            x.set(6, 5);
            carryOut(x, Asm.atomic(Asm.SC, 7, 5, 6));
            CHECK.same("d of a store conditional at " + address, x.register(7), 0);
            CHECK.same("the word at " + address, Asm.word(x, address), 5);
        }
        RiscHart y = hart(-5, 0);
        carryOut(y, Asm.atomic(Asm.LR, 5, 5, 0));
        CHECK.same("d being a", y.register(5), -5);
        CHECK.same("reserved, d being a", y.count(4), AT);
        RiscHart z = hart(-5, 0);
        carryOut(z, Asm.atomic(Asm.LR, 0, 5, 0));
        CHECK.same("d being x0", z.register(0), 0);
        CHECK.same("reserved, d being x0", z.count(4), AT);
    }

    private static void reservesInPlace() {
        for (int other : new int[] {AT + 4, AT - 4, 0, 65532}) {
            RiscHart x = reserving(3, 8);
            x.set(5, other);
            carryOut(x, Asm.atomic(Asm.LR, 7, 5, 0));
            CHECK.same("reserved", x.count(4), other);
            x.poke(AT, 4);
            CHECK.same("reserved behind a write to the former", x.count(4), other);
            x.set(5, AT);
            carryOut(x, Asm.atomic(Asm.SC, 7, 5, 6));
            CHECK.same("d at the former", x.register(7), 1);
            CHECK.same("the former word", Asm.word(x, AT), 4);
        }
        RiscHart y = reserving(3, 8);
        carryOut(y, Asm.atomic(Asm.LR, 7, 5, 0));
        storesIf("the same word twice", y, true);
    }

    private static void storesWhereReserved() {
        for (int b : new int[] {0, 1, -1, MIN, MAX, 3}) {
            RiscHart x = reserving(3, b);
            carryOut(x, Asm.atomic(Asm.SC, 7, 5, 6));
            CHECK.same("d", x.register(7), 0);
            CHECK.same("word", Asm.word(x, AT), b);
        }
        RiscHart y = reserving(3, 9);
        carryOut(y, Asm.atomic(Asm.SC, 6, 5, 6));
        CHECK.same("d being b", y.register(6), 0);
        CHECK.same("word, d being b", Asm.word(y, AT), 9);
        RiscHart z = reserving(3, 9);
        carryOut(z, Asm.atomic(Asm.SC, 7, 5, 0));
        CHECK.same("word, b being x0", Asm.word(z, AT), 0);
    }

    private static void storesNowhereElse() {
        RiscHart x = hart(3, 8);
        carryOut(x, Asm.atomic(Asm.SC, 7, 5, 6));
        CHECK.same("d, nothing being reserved", x.register(7), 1);
        CHECK.same("word, nothing being reserved", Asm.word(x, AT), 3);
        CHECK.same("retired all the same", x.count(3), 1);
        for (int other : new int[] {AT + 4, AT - 4, 0, 65532}) {
            RiscHart y = reserving(3, 8);
            int before = Asm.word(y, other);
            y.set(5, other);
            carryOut(y, Asm.atomic(Asm.SC, 7, 5, 6));
            CHECK.same("d at " + other, y.register(7), 1);
            CHECK.same("word at " + other, Asm.word(y, other), before);
            CHECK.same("the reserved word", Asm.word(y, AT), 3);
        }
    }

    private static void nothingIsReservedThen() {
        RiscHart x = reserving(3, 8);
        carryOut(x, Asm.atomic(Asm.SC, 7, 5, 6));
        storesIf("behind one that stored", x, false);
        for (int other : new int[] {AT + 4, AT - 4, 0, 65532}) {
            RiscHart y = reserving(3, 8);
            y.set(5, other);
            carryOut(y, Asm.atomic(Asm.SC, 7, 5, 6));
            storesIf("behind one at " + other, y, false);
        }
    }

    private static void formerWord() {
        for (int k : CHANGES) {
            for (int word : new int[] {0, 1, -1, 0x80, 0x8000, MIN, MAX}) {
                RiscHart x = hart(word, 7);
                carryOut(x, Asm.atomic(k, 7, 5, 6));
                CHECK.same("d of K " + k, x.register(7), word);
            }
            RiscHart y = hart(-9, 7);
            carryOut(y, Asm.atomic(k, 5, 5, 6));
            CHECK.same("d of K " + k + ", being a", y.register(5), -9);
            RiscHart z = hart(-9, 7);
            carryOut(z, Asm.atomic(k, 6, 5, 6));
            CHECK.same("d of K " + k + ", being b", z.register(6), -9);
        }
    }

    /** Rows of word, b and what the word becomes. */
    private static void rows(int k, int[][] rows) {
        for (int[] row : rows) {
            RiscHart x = hart(row[0], row[1]);
            x.plant(AT - 4, 0x11111111);
            x.plant(AT + 4, 0x11111111);
            carryOut(x, Asm.atomic(k, 7, 5, 6));
            CHECK.same("K " + k + " of " + row[0] + ", " + row[1], Asm.word(x, AT), row[2]);
            CHECK.same("the word before", Asm.word(x, AT - 4), 0x11111111);
            CHECK.same("the word behind", Asm.word(x, AT + 4), 0x11111111);
        }
    }

    private static void plainChanges() {
        rows(1, new int[][] {{5, 9, 9}, {-1, 0, 0}, {0, MIN, MIN}});
        rows(0, new int[][] {{5, 9, 14}, {MAX, 1, MIN}, {MIN, -1, MAX}, {-1, 1, 0}});
        rows(4, new int[][] {{-1, -1, 0}, {0x0ff0, 0x00ff, 0x0f0f}, {MIN, MAX, -1}});
        rows(12, new int[][] {{-1, -1, -1}, {0x0ff0, 0x00ff, 0x00f0}, {MIN, MAX, 0}});
        rows(8, new int[][] {{0, 0, 0}, {0x0ff0, 0x00ff, 0x0fff}, {MIN, MAX, -1}});
        RiscHart x = hart(5, 9);
        carryOut(x, Asm.atomic(1, 6, 5, 6));
        CHECK.same("word of K 1, d being b", Asm.word(x, AT), 9);
        RiscHart y = hart(5, 9);
        carryOut(y, Asm.atomic(0, 5, 5, 5));
        CHECK.same("word of K 0, d and b being a", Asm.word(y, AT), AT + 5);
    }

    private static void lessAndGreater() {
        rows(16, new int[][] {{1, 2, 1}, {2, 1, 1}, {-1, 0, -1}, {0, -1, -1}, {MIN, MAX, MIN}, {MAX, MIN, MIN}, {4, 4, 4}});
        rows(20, new int[][] {{1, 2, 2}, {2, 1, 2}, {-1, 0, 0}, {0, -1, 0}, {MIN, MAX, MAX}, {MAX, MIN, MAX}, {4, 4, 4}});
    }

    private static void lessAndGreaterUnsigned() {
        rows(24, new int[][] {{1, 2, 1}, {2, 1, 1}, {-1, 0, 0}, {0, -1, 0}, {MIN, MAX, MAX}, {MAX, MIN, MAX}, {-1, -2, -2}, {4, 4, 4}});
        rows(28, new int[][] {{1, 2, 2}, {2, 1, 2}, {-1, 0, -1}, {0, -1, -1}, {MIN, MAX, MIN}, {MAX, MIN, MIN}, {-1, -2, -1}, {4, 4, 4}});
    }

    /** The word being what is written, nothing but the writing itself can be seen. */
    private static void storesEndIt() {
        for (int k = 0; k < 4; k++) {
            RiscHart x = reserving(0, 0);
            carryOut(x, Asm.s(0, 5, 6, k));
            storesIf("behind a store of byte " + k, x, false);
        }
        for (int k = 0; k < 4; k += 2) {
            RiscHart x = reserving(0, 0);
            carryOut(x, Asm.s(1, 5, 6, k));
            storesIf("behind a store of half " + k, x, false);
        }
        RiscHart y = reserving(0, 0);
        carryOut(y, Asm.s(2, 5, 6, 0));
        storesIf("behind a store of the word", y, false);
    }

    private static void shortStoresEndIt() {
        RiscHart x = reserving(0, 0);
        x.set(8, AT);
        carryOut(x, Half.of(0, 6, 0, 0, 1));
        storesIf("behind a short store", x, false);
        RiscHart y = reserving(0, 0);
        y.set(2, AT);
        carryOut(y, Half.of(2, 6, 0, 0, 6));
        storesIf("behind a short store on the stack", y, false);
    }

    private static void atomicsEndIt() {
        for (int k : CHANGES) {
            RiscHart x = reserving(0, 0);
            carryOut(x, Asm.atomic(k, 7, 5, 6));
            storesIf("behind K " + k, x, false);
        }
    }

    private static void pokesEndIt() {
        for (int k = 0; k < 4; k++) {
            RiscHart x = reserving(0, 0);
            x.poke(AT + k, 0);
            storesIf("behind poke() of byte " + k, x, false);
        }
    }

    private static void plantsEndIt() {
        RiscHart x = reserving(0, 0);
        x.plant(AT, 0);
        storesIf("behind plant()", x, false);
    }

    private static void nothingElseEndsIt() {
        for (int address : new int[] {AT - 1, AT - 4, AT + 4, AT + 7, 0, 65535}) {
            RiscHart x = reserving(3, 8);
            x.poke(address, 1);
            storesIf("behind poke() at " + address, x, true);
            RiscHart y = reserving(3, 8);
            y.plant(address & ~3, 1);
            storesIf("behind plant() at " + (address & ~3), y, true);
            RiscHart z = reserving(3, 8);
            z.set(9, address);
            carryOut(z, Asm.s(0, 9, 6, 0));
            storesIf("behind a store at " + address, z, true);
        }
        RiscHart half = reserving(3, 8);
        carryOut(half, Asm.s(1, 5, 6, -2));
        carryOut(half, Asm.s(1, 5, 6, 4));
        storesIf("behind stores of halves beside it", half, true);
        for (int k : CHANGES) {
            RiscHart x = reserving(3, 8);
            x.set(9, AT + 4);
            carryOut(x, Asm.atomic(k, 7, 9, 6));
            x.set(9, AT - 4);
            carryOut(x, Asm.atomic(k, 7, 9, 6));
            storesIf("behind K " + k + " beside it", x, true);
        }
        RiscHart y = reserving(3, 8);
        carryOut(y, Asm.lw(7, 5, 0));
        carryOut(y, Asm.addi(7, 7, 1));
        carryOut(y, Asm.j(7, 8));
        y.rights(AT / 1024, 0);
        y.rights(AT / 1024, 7);
        y.set(5, 1);
        y.jump(1);
        y.clock(7);
        y.peek(AT);
        storesIf("behind all that writes nothing there", y, true);
    }

    private static void trapsDoNotEndIt() {
        int[] words = {Asm.sw(6, 5, 0), Asm.s(0, 5, 6, 0), Asm.atomic(Asm.SC, 7, 5, 6), Asm.atomic(0, 7, 5, 6), Asm.atomic(1, 7, 5, 6)};
        for (int word : words) {
            RiscHart x = reserving(3, 8);
            x.rights(AT / 1024, 1);
            Asm.load(x, Bench.PLACE, word);
            Traps.ask(CHECK, "a write to a closed page", x, Traps.STORE, AT);
            x.rights(AT / 1024, 7);
            storesIf("behind a write that traps", x, true);
        }
        RiscHart y = reserving(3, 8);
        y.set(5, 65536);
        Asm.load(y, Bench.PLACE, Asm.atomic(Asm.LR, 7, 5, 0));
        Traps.ask(CHECK, "a load reserved nowhere", y, Traps.LOAD, 65536);
        storesIf("behind a load reserved that traps", y, true);
        RiscHart z = reserving(3, 8);
        z.set(5, AT + 2);
        Asm.load(z, Bench.PLACE, Asm.atomic(Asm.SC, 7, 5, 6));
        Traps.ask(CHECK, "a store conditional between", z, Traps.MISALIGNED, AT + 2);
        storesIf("behind a store conditional that traps", z, true);
    }
}
