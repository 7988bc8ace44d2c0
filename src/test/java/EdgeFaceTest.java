/** The sentences of the promises 1 to 12 that name an edge or a refused call, each with a test of its own. */
public final class EdgeFaceTest {
    private static final Check CHECK = new Check();
    private static final Class<IndexOutOfBoundsException> INDEX = IndexOutOfBoundsException.class;
    private static final Class<IllegalArgumentException> ARGUMENT = IllegalArgumentException.class;
    private static final int MIN = Integer.MIN_VALUE;
    private static final int MAX = Integer.MAX_VALUE;
    private static final int NOP = Asm.addi(0, 0, 0);
    private static final int[] NO_BYTES = {-1, -2, -4, -65536, 65536, 65537, 65540, 131072, 131071, 1 << 24, MIN, MIN + 4, MAX, MAX - 3};

    public static void main(String[] args) {
        CHECK.sentence("1: All bytes and registers 0", EdgeFaceTest::newBytesAndRegisters);
        CHECK.sentence("1: all pages open", EdgeFaceTest::newPages);
        CHECK.sentence("1: place 0, nothing retired or reserved, cause and value 0", EdgeFaceTest::newCounts);
        CHECK.sentence("1: clock 0", EdgeFaceTest::newClock);
        CHECK.sentence("2: A byte becomes the lowest eight bits of v.", EdgeFaceTest::pokeCuts);
        CHECK.sentence("2: IndexOutOfBoundsException when there is no such one.", EdgeFaceTest::pokeOutside);
        CHECK.sentence("3: Likewise four bytes from an address on", EdgeFaceTest::plantFour);
        CHECK.sentence("3: (a multiple of 4)", EdgeFaceTest::plantBetween);
        CHECK.sentence("3: IndexOutOfBoundsException when it is none of 0 .. 65532.", EdgeFaceTest::plantOutside);
        CHECK.sentence("4: A byte, 0 .. 255.", EdgeFaceTest::peekIsUnsigned);
        CHECK.sentence("4: IndexOutOfBoundsException when there is no such one.", EdgeFaceTest::peekOutside);
        CHECK.sentence("5: The rights of a page become these: what they were.", EdgeFaceTest::rightsBefore);
        CHECK.sentence("5: IllegalArgumentException when page is not 0 .. 63", EdgeFaceTest::rightsOfNoPage);
        CHECK.sentence("5: or rights not 0 .. 7.", EdgeFaceTest::noSuchRights);
        CHECK.sentence("6: Register r becomes v: true", EdgeFaceTest::setRegisters);
        CHECK.sentence("6: false for x0, which stays.", EdgeFaceTest::setZero);
        CHECK.sentence("6: IndexOutOfBoundsException when r is not 0 .. 31.", EdgeFaceTest::setOutside);
        CHECK.sentence("7: What register r has.", EdgeFaceTest::registers);
        CHECK.sentence("7: IndexOutOfBoundsException when r is not 0 .. 31.", EdgeFaceTest::registerOutside);
        CHECK.sentence("8: The place becomes this.", EdgeFaceTest::jumps);
        CHECK.sentence("9: The clock becomes this.", EdgeFaceTest::clocks);
        CHECK.sentence("10: One step: 0, or the cause.", EdgeFaceTest::steps);
        CHECK.sentence("11: Up to n steps", EdgeFaceTest::runsUpToN);
        CHECK.sentence("11: until one traps: how many were retired.", EdgeFaceTest::runsIntoTraps);
        CHECK.sentence("11: IllegalArgumentException when n is not 0 .. 2000.", EdgeFaceTest::runOutside);
        CHECK.sentence("12: what = 0 the place", EdgeFaceTest::countsPlace);
        CHECK.sentence("12: 1 the cause and 2 the value of the latest trap", EdgeFaceTest::countsLatestTrap);
        CHECK.sentence("12: 3 how many were retired", EdgeFaceTest::countsRetired);
        CHECK.sentence("12: 4 the address of the reserved word", EdgeFaceTest::countsReserved);
        CHECK.sentence("12: -1 without one.", EdgeFaceTest::countsNoReserved);
        CHECK.sentence("12: IllegalArgumentException for another what.", EdgeFaceTest::countsNothingElse);
        CHECK.sentence("12: (0, 2 as signed numbers.)", EdgeFaceTest::countsSigned);
        CHECK.end();
    }

    /** A hart whose word at the address is reserved; that word is 0. */
    private static RiscHart reserving(int address) {
        RiscHart x = new RiscHart();
        x.set(5, address);
        Asm.load(x, 0x100, Asm.atomic(Asm.LR, 0, 5, 0));
        CHECK.same("step() that reserves", x.step(), 0);
        return x;
    }

    private static void newBytesAndRegisters() {
        for (int part = 0; part < 128; part++) {
            RiscHart x = new RiscHart();
            for (int address = 512 * part; address < 512 * part + 480; address++) {
                CHECK.same("new peek(" + address + ")", x.peek(address), 0);
            }
            RiscHart y = new RiscHart();
            for (int address = 512 * part + 480; address < 512 * part + 512; address++) {
                CHECK.same("new peek(" + address + ")", y.peek(address), 0);
            }
            for (int r = 0; r < 32; r++) {
                CHECK.same("new register(" + r + ")", x.register(r), 0);
            }
        }
    }

    private static void newPages() {
        for (int page = 0; page < 64; page++) {
            int first = 1024 * page;
            int last = first + 1020;
            for (int place : new int[] {first, last}) {
                RiscHart x = new RiscHart();
                x.set(5, first);
                x.set(6, last + 3);
                x.plant(place, Asm.i(0x03, 4, 7, place == first ? 6 : 5, 0));
                x.jump(place);
                CHECK.same("load in page " + page + " carried out there", x.step(), 0);
                x.plant(place, Asm.s(0, place == first ? 6 : 5, 0, 0));
                x.jump(place);
                CHECK.same("store in page " + page + " carried out there", x.step(), 0);
            }
            RiscHart y = new RiscHart();
            CHECK.same("new rights(" + page + ", 0)", y.rights(page, 0), 7);
        }
    }

    private static void newCounts() {
        RiscHart x = new RiscHart();
        for (int what = 0; what < 4; what++) {
            CHECK.same("new count(" + what + ")", x.count(what), 0);
        }
        CHECK.same("new count(4)", x.count(4), -1);
        x.plant(0, Asm.atomic(Asm.SC, 7, 0, 0));
        CHECK.same("a store conditional at 0", x.step(), 0);
        CHECK.same("what it finds reserved", x.register(7), 1);
        RiscHart y = new RiscHart();
        y.plant(0, Asm.counter(2, 7, 0, 0xc02));
        y.set(7, 1);
        CHECK.same("the first step, at 0", y.step(), 0);
        CHECK.same("how many were retired before it", y.register(7), 0);
    }

    private static void newClock() {
        RiscHart x = new RiscHart();
        Asm.load(x, 0, Asm.counter(2, 7, 0, 0xc01), Asm.counter(2, 8, 0, 0xc81));
        x.set(7, 1);
        x.set(8, 1);
        CHECK.same("run(2)", x.run(2), 2);
        CHECK.same("lower half", x.register(7), 0);
        CHECK.same("upper half", x.register(8), 0);
    }

    private static void pokeCuts() {
        int[][] rows = {{0, 0}, {1, 1}, {127, 127}, {128, 128}, {255, 255}, {256, 0}, {257, 1}, {511, 255}, {-1, 255}, {-128, 128},
            {-256, 0}, {-257, 255}, {MIN, 0}, {MAX, 255}, {0x12345678, 0x78}, {0xffffff00, 0}};
        for (int address : new int[] {0, 1, 2, 3, 1023, 1024, 65534, 65535}) {
            RiscHart x = new RiscHart();
            for (int[] row : rows) {
                x.poke(address, row[0]);
                CHECK.same("peek(" + address + ") behind poke of " + row[0], x.peek(address), row[1]);
            }
            x.poke(address, -1);
            if (address > 0) {
                CHECK.same("the byte before " + address, x.peek(address - 1), 0);
            }
            if (address < 65535) {
                CHECK.same("the byte behind " + address, x.peek(address + 1), 0);
            }
        }
    }

    /** The bytes where such an address would lie if it went round. */
    private static void unharmed(RiscHart x, String by, int address) {
        for (int k = -4; k < 8; k++) {
            int near = address + k & 65535;
            CHECK.same("peek(" + near + ") behind a refused " + by, x.peek(near), 0);
        }
    }

    private static void pokeOutside() {
        RiscHart first = new RiscHart();
        first.poke(0, 9);
        first.poke(65535, 8);
        CHECK.same("the first byte", first.peek(0), 9);
        CHECK.same("the last byte", first.peek(65535), 8);
        for (int address : NO_BYTES) {
            RiscHart x = new RiscHart();
            CHECK.thrown("poke(" + address + ", -1)", INDEX, () -> x.poke(address, -1));
            unharmed(x, "poke(" + address + ")", address);
            RiscHart y = reserving(65532);
            CHECK.thrown("poke(" + address + ", 0)", INDEX, () -> y.poke(address, 0));
            CHECK.same("reserved behind a refused poke(" + address + ")", y.count(4), 65532);
        }
    }

    private static void plantFour() {
        for (int address : new int[] {0, 4, 1020, 1024, 65528, 65532}) {
            RiscHart x = new RiscHart();
            x.plant(address, 0xf1e2d3c4);
            int[] due = {0xc4, 0xd3, 0xe2, 0xf1};
            for (int k = 0; k < 4; k++) {
                CHECK.same("peek(" + (address + k) + ")", x.peek(address + k), due[k]);
            }
            CHECK.same("the byte before " + address, address > 0 ? x.peek(address - 1) : 0, 0);
            CHECK.same("the byte behind " + address, address < 65532 ? x.peek(address + 4) : 0, 0);
        }
        for (int word : new int[] {0, -1, MIN, MAX, 255, 256}) {
            RiscHart x = new RiscHart();
            x.plant(8, ~word);
            x.plant(8, word);
            CHECK.same("word 8", Asm.word(x, 8), word);
        }
    }

    private static void plantBetween() {
        for (int address : new int[] {1, 2, 3, 5, 6, 7, 1021, 1022, 1023, 65529, 65530, 65531}) {
            RiscHart x = reserving(address & ~3);
            CHECK.thrown("plant(" + address + ", -1)", INDEX, () -> x.plant(address, -1));
            for (int k = address - 3 < 0 ? 0 : address - 3; k < address + 4; k++) {
                CHECK.same("peek(" + k + ") behind a refused plant(" + address + ")", x.peek(k), 0);
            }
            CHECK.same("reserved behind a refused plant(" + address + ")", x.count(4), address & ~3);
        }
    }

    private static void plantOutside() {
        RiscHart first = new RiscHart();
        first.plant(0, 77);
        first.plant(65532, 78);
        CHECK.same("the first word", Asm.word(first, 0), 77);
        CHECK.same("the last word", Asm.word(first, 65532), 78);
        for (int address : new int[] {65533, 65534, 65535}) {
            RiscHart x = new RiscHart();
            CHECK.thrown("plant(" + address + ", -1)", INDEX, () -> x.plant(address, -1));
            unharmed(x, "plant(" + address + ")", address);
        }
        for (int address : NO_BYTES) {
            RiscHart x = new RiscHart();
            CHECK.thrown("plant(" + address + ", -1)", INDEX, () -> x.plant(address, -1));
            unharmed(x, "plant(" + address + ")", address);
            RiscHart y = reserving(65532);
            CHECK.thrown("plant(" + address + ", 0)", INDEX, () -> y.plant(address, 0));
            CHECK.same("reserved behind a refused plant(" + address + ")", y.count(4), 65532);
        }
    }

    private static void peekIsUnsigned() {
        RiscHart x = new RiscHart();
        x.plant(0, 0x807fff00);
        x.plant(65532, 0xff7f8001);
        int[][] rows = {{0, 0}, {1, 255}, {2, 127}, {3, 128}, {65532, 1}, {65533, 128}, {65534, 127}, {65535, 255}};
        for (int[] row : rows) {
            CHECK.same("peek(" + row[0] + ")", x.peek(row[0]), row[1]);
        }
        x.rights(0, 0);
        CHECK.same("peek(1) of a closed page", x.peek(1), 255);
    }

    private static void peekOutside() {
        RiscHart x = new RiscHart();
        CHECK.same("the first byte", x.peek(0), 0);
        CHECK.same("the last byte", x.peek(65535), 0);
        for (int address : NO_BYTES) {
            CHECK.thrown("peek(" + address + ")", INDEX, () -> x.peek(address));
        }
    }

    private static void rightsBefore() {
        RiscHart x = new RiscHart();
        for (int page : new int[] {0, 1, 62, 63}) {
            for (int rights = 0; rights < 8; rights++) {
                CHECK.same("rights(" + page + ", " + rights + ")", x.rights(page, rights), rights == 0 ? 7 : rights - 1);
                CHECK.same("the same again", x.rights(page, rights), rights);
            }
            x.rights(page, page & 7 ^ 5);
        }
        for (int page : new int[] {0, 1, 62, 63}) {
            CHECK.same("rights(" + page + ", 0)", x.rights(page, 0), page & 7 ^ 5);
        }
        CHECK.same("the rights of a page between", x.rights(2, 0), 7);
        CHECK.same("the rights of a page between", x.rights(61, 0), 7);
    }

    private static void rightsOfNoPage() {
        RiscHart x = new RiscHart();
        CHECK.same("rights(0, 6)", x.rights(0, 6), 7);
        CHECK.same("rights(63, 5)", x.rights(63, 5), 7);
        for (int page : new int[] {-1, -64, 64, 65, 128, 1024, 65536, MIN, MAX}) {
            for (int rights : new int[] {0, 7, -1, 8}) {
                CHECK.thrown("rights(" + page + ", " + rights + ")", ARGUMENT, () -> x.rights(page, rights));
            }
        }
        CHECK.same("rights(0, 7) behind refused ones", x.rights(0, 7), 6);
        CHECK.same("rights(63, 7) behind refused ones", x.rights(63, 7), 5);
    }

    private static void noSuchRights() {
        RiscHart x = new RiscHart();
        CHECK.same("rights(0, 0)", x.rights(0, 0), 7);
        CHECK.same("rights(63, 7)", x.rights(63, 7), 7);
        for (int rights : new int[] {-1, -8, 8, 9, 15, 16, 256, MIN, MAX}) {
            CHECK.thrown("rights(0, " + rights + ")", ARGUMENT, () -> x.rights(0, rights));
            CHECK.thrown("rights(63, " + rights + ")", ARGUMENT, () -> x.rights(63, rights));
        }
        CHECK.same("rights(0, 7) behind refused ones", x.rights(0, 7), 0);
        CHECK.same("rights(63, 0) behind refused ones", x.rights(63, 0), 7);
    }

    private static void setRegisters() {
        for (int v : new int[] {0, 1, -1, MIN, MAX}) {
            RiscHart x = new RiscHart();
            for (int r = 1; r < 32; r++) {
                CHECK.same("set(" + r + ", " + v + ")", x.set(r, v) ? 1 : 0, 1);
                CHECK.same("register(" + r + ")", x.register(r), v);
                CHECK.same("the next register", r < 31 ? x.register(r + 1) : 0, 0);
            }
        }
    }

    private static void setZero() {
        for (int v : new int[] {0, 1, -1, MIN, MAX}) {
            RiscHart x = new RiscHart();
            CHECK.same("set(0, " + v + ")", x.set(0, v) ? 1 : 0, 0);
            CHECK.same("register(0)", x.register(0), 0);
            Asm.load(x, 0, Asm.r(0, 0, 7, 0, 0));
            CHECK.same("step() of x0 + x0", x.step(), 0);
            CHECK.same("x0 + x0", x.register(7), 0);
        }
    }

    private static void setOutside() {
        RiscHart x = new RiscHart();
        CHECK.same("set(31, 3)", x.set(31, 3) ? 1 : 0, 1);
        for (int r : new int[] {-1, -31, -32, 32, 33, 63, 64, 256, MIN, MAX}) {
            CHECK.thrown("set(" + r + ", 9)", INDEX, () -> x.set(r, 9));
        }
        for (int r = 0; r < 32; r++) {
            CHECK.same("register(" + r + ") behind refused sets", x.register(r), r == 31 ? 3 : 0);
        }
    }

    private static void registers() {
        RiscHart x = new RiscHart();
        for (int r = 31; r >= 0; r--) {
            x.set(r, MIN + r);
        }
        for (int r = 0; r < 32; r++) {
            CHECK.same("register(" + r + ")", x.register(r), r == 0 ? 0 : MIN + r);
        }
    }

    private static void registerOutside() {
        RiscHart x = new RiscHart();
        CHECK.same("register(0)", x.register(0), 0);
        CHECK.same("register(31)", x.register(31), 0);
        for (int r : new int[] {-1, -31, -32, 32, 33, 63, 64, 256, MIN, MAX}) {
            CHECK.thrown("register(" + r + ")", INDEX, () -> x.register(r));
        }
    }

    /** A place where nothing can be carried out is no fault of jump(), but of the step there. */
    private static void jumps() {
        for (int address : new int[] {0, 1, 2, 65534, 65535, 65536, -1, -2, MIN, MAX}) {
            RiscHart x = new RiscHart();
            x.jump(12);
            x.jump(address);
            CHECK.same("place behind jump(" + address + ")", x.count(0), address);
            for (int what = 1; what < 4; what++) {
                CHECK.same("count(" + what + ") behind jump(" + address + ")", x.count(what), 0);
            }
            CHECK.same("reserved behind jump(" + address + ")", x.count(4), -1);
        }
    }

    private static void clocks() {
        long[] times = {0, 1, -1, MAX, MIN, 0xffffffffL, 0x100000000L, 0x80000000L, 0x7fffffff00000000L, Long.MAX_VALUE, Long.MIN_VALUE};
        for (long time : times) {
            RiscHart x = new RiscHart();
            x.clock(~time);
            x.clock(time);
            Asm.load(x, 0, Asm.counter(2, 7, 0, 0xc01), Asm.counter(2, 8, 0, 0xc81), Asm.counter(2, 9, 0, 0xc01));
            CHECK.same("run(3)", x.run(3), 3);
            CHECK.same("lower half of " + time, x.register(7), (int) (time & 0xffffffffL));
            CHECK.same("upper half of " + time, x.register(8), (int) (time >> 32));
            CHECK.same("steps leave the clock", x.register(9), x.register(7));
        }
    }

    private static void steps() {
        int[][] rows = {{NOP, 0, 0}, {Asm.CALL, 0, 3}, {Asm.BREAK, 0, 4}, {-1, 0, 2}, {Asm.lw(7, 5, 0), 1, 5}, {Asm.lw(7, 5, 0), 65536, 6},
            {Asm.sw(7, 5, 0), 65536, 7}};
        for (int[] row : rows) {
            RiscHart x = new RiscHart();
            x.set(5, row[1]);
            Asm.load(x, 0x100, row[0], NOP);
            CHECK.same("step() of " + Integer.toHexString(row[0]), x.step(), row[2]);
            CHECK.same("retired", x.count(3), row[2] == 0 ? 1 : 0);
            x.jump(0x104);
            CHECK.same("step() behind it", x.step(), 0);
            x.jump(1);
            CHECK.same("step() at an odd place", x.step(), 1);
            CHECK.same("step() at an odd place again", x.step(), 1);
        }
    }

    private static RiscHart looping() {
        RiscHart x = new RiscHart();
        Asm.load(x, 0, Asm.addi(1, 1, 1), Asm.j(0, -4));
        return x;
    }

    private static void runsUpToN() {
        for (int n : new int[] {0, 1, 2, 3, 1999, 2000}) {
            RiscHart x = looping();
            CHECK.same("run(" + n + ")", x.run(n), n);
            CHECK.same("retired behind run(" + n + ")", x.count(3), n);
            CHECK.same("place behind run(" + n + ")", x.count(0), n % 2 * 4);
            CHECK.same("register(1) behind run(" + n + ")", x.register(1), (n + 1) / 2);
            CHECK.same("cause behind run(" + n + ")", x.count(1), 0);
        }
        RiscHart y = new RiscHart();
        y.jump(1);
        CHECK.same("run(0) where a step would trap", y.run(0), 0);
        CHECK.same("cause behind run(0)", y.count(1), 0);
    }

    private static void runsIntoTraps() {
        for (int before = 0; before < 5; before++) {
            RiscHart x = new RiscHart();
            for (int k = 0; k < before; k++) {
                x.plant(4 * k, Asm.addi(1, 1, 1));
            }
            x.plant(4 * before, Asm.CALL);
            x.plant(4 * before + 4, Asm.addi(2, 2, 1));
            CHECK.same("run(2000) with a trap behind " + before, x.run(2000), before);
            CHECK.same("cause", x.count(1), 3);
            CHECK.same("place", x.count(0), 4 * before);
            CHECK.same("retired", x.count(3), before);
            CHECK.same("what stands before", x.register(1), before);
            CHECK.same("what stands behind", x.register(2), 0);
            CHECK.same("run(2000) again", x.run(2000), 0);
        }
        RiscHart y = new RiscHart();
        Asm.load(y, 0, NOP, NOP, Asm.CALL);
        CHECK.same("run(2) up to the trap", y.run(2), 2);
        CHECK.same("cause", y.count(1), 0);
        CHECK.same("run(1) of the trap", y.run(1), 0);
        CHECK.same("cause", y.count(1), 3);
        y.jump(0);
        CHECK.same("run(2) behind an earlier trap", y.run(2), 2);
        CHECK.same("retired in all", y.count(3), 4);
    }

    private static void runOutside() {
        for (int n : new int[] {-1, -2000, 2001, 4000, 65536, MIN, MAX}) {
            RiscHart x = looping();
            CHECK.thrown("run(" + n + ")", ARGUMENT, () -> x.run(n));
            CHECK.same("retired behind a refused run(" + n + ")", x.count(3), 0);
            CHECK.same("place behind a refused run(" + n + ")", x.count(0), 0);
            CHECK.same("register(1) behind a refused run(" + n + ")", x.register(1), 0);
        }
    }

    private static void countsPlace() {
        RiscHart x = new RiscHart();
        Asm.load(x, 0, NOP, 0x00010001, Asm.j(0, 1024), 0);
        for (int due : new int[] {4, 6, 8, 1032}) {
            CHECK.same("step()", x.step(), 0);
            CHECK.same("place", x.count(0), due);
        }
        CHECK.same("step() of a half of 0", x.step(), 2);
        CHECK.same("place of the trap", x.count(0), 1032);
    }

    private static void countsLatestTrap() {
        RiscHart x = new RiscHart();
        Asm.load(x, 0, NOP, Asm.CALL);
        x.jump(3);
        CHECK.same("step() at 3", x.step(), 1);
        CHECK.same("cause", x.count(1), 1);
        CHECK.same("value", x.count(2), 3);
        x.jump(0);
        CHECK.same("step() that is carried out", x.step(), 0);
        CHECK.same("the cause stays", x.count(1), 1);
        CHECK.same("the value stays", x.count(2), 3);
        CHECK.same("step() of a call", x.step(), 3);
        CHECK.same("the latest cause", x.count(1), 3);
        CHECK.same("the latest value", x.count(2), 0);
    }

    private static void countsRetired() {
        RiscHart x = looping();
        x.plant(8, Asm.CALL);
        long due = 0;
        for (int k = 0; k < 60; k++) {
            due += x.run(2000);
            CHECK.same("retired", x.count(3), 2000 * (k + 1));
        }
        CHECK.same("all that run() answered", due, 120000);
        x.jump(8);
        CHECK.same("step() of a call", x.step(), 3);
        CHECK.same("a trap is not retired", x.count(3), due);
        x.jump(0);
        CHECK.same("step()", x.step(), 0);
        CHECK.same("a step is", x.count(3), due + 1);
    }

    private static void countsReserved() {
        for (int address : new int[] {0, 4, 1020, 1024, 65528, 65532}) {
            CHECK.same("reserved", reserving(address).count(4), address);
        }
    }

    private static void countsNoReserved() {
        CHECK.same("reserved in a new object", new RiscHart().count(4), -1);
        RiscHart x = reserving(0);
        CHECK.same("reserved", x.count(4), 0);
        x.poke(3, 0);
        CHECK.same("reserved behind poke()", x.count(4), -1);
    }

    private static void countsNothingElse() {
        RiscHart x = new RiscHart();
        for (int what = 0; what < 5; what++) {
            CHECK.same("count(" + what + ")", x.count(what), what == 4 ? -1 : 0);
        }
        for (int what : new int[] {-1, -2, -5, 5, 6, 7, 8, 32, 256, MIN, MAX}) {
            CHECK.thrown("count(" + what + ")", ARGUMENT, () -> x.count(what));
        }
    }

    private static void countsSigned() {
        for (int place : new int[] {-2, -1, MIN, MIN + 2, 0xffff0000}) {
            RiscHart x = new RiscHart();
            x.jump(place);
            CHECK.same("place", x.count(0), (long) place);
            CHECK.same("step()", x.step(), 1);
            CHECK.same("value", x.count(2), (long) place);
        }
        for (int address : new int[] {-4, MIN, 0x80000004}) {
            RiscHart x = new RiscHart();
            x.set(5, address);
            Asm.load(x, 0x100, Asm.lw(7, 5, 0));
            CHECK.same("step()", x.step(), 6);
            CHECK.same("value", x.count(2), (long) address);
        }
        RiscHart y = new RiscHart();
        Asm.load(y, 0x100, 0x8000007f);
        CHECK.same("step()", y.step(), 2);
        CHECK.same("value", y.count(2), (long) 0x8000007f);
    }
}
