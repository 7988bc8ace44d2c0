import java.lang.reflect.Field;

/** The sentences of the section "Terms" above the long ones that name an edge, each with a test of its own. */
public final class EdgeTermsTest {
    private static final Check CHECK = new Check();
    private static final int MIN = Integer.MIN_VALUE;
    private static final int MAX = Integer.MAX_VALUE;
    private static final int NOP = Asm.addi(0, 0, 0);
    private static final int SHORT_NOP = 0x0001;
    private static final int LOAD_BYTE = Asm.i(0x03, 0, 7, 5, 0);
    private static final int LOAD_HALF = Asm.i(0x03, 1, 7, 5, 0);
    private static final int LOAD_WORD = Asm.i(0x03, 2, 7, 5, 0);
    private static final int LOAD_UNSIGNED_BYTE = Asm.i(0x03, 4, 7, 5, 0);
    private static final int LOAD_UNSIGNED_HALF = Asm.i(0x03, 5, 7, 5, 0);
    private static final int STORE_BYTE = Asm.s(0, 5, 6, 0);
    private static final int STORE_HALF = Asm.s(1, 5, 6, 0);
    private static final int STORE_WORD = Asm.s(2, 5, 6, 0);
    private static final int LOAD_RESERVED = Asm.atomic(Asm.LR, 7, 5, 0);
    private static final int[] CHANGES = {Asm.atomic(0, 7, 5, 6), Asm.atomic(1, 7, 5, 6), Asm.atomic(Asm.SC, 7, 5, 6),
        Asm.atomic(4, 7, 5, 6), Asm.atomic(8, 7, 5, 6), Asm.atomic(12, 7, 5, 6), Asm.atomic(16, 7, 5, 6), Asm.atomic(20, 7, 5, 6),
        Asm.atomic(24, 7, 5, 6), Asm.atomic(28, 7, 5, 6)};
    private static final int[] NOT_THERE = {65536, 65540, 0x20000, 0x01000000, MAX - 3, MIN, -65536, -4};

    public static void main(String[] args) {
        CHECK.sentence("NUMBERS are 32 bits, all arithmetic goes round", EdgeTermsTest::goesRound);
        CHECK.sentence("all arithmetic goes round: addresses", EdgeTermsTest::addressesGoRound);
        CHECK.sentence("all arithmetic goes round: places", EdgeTermsTest::placesGoRound);
        CHECK.sentence("x0 is always 0", EdgeTermsTest::zeroStays);
        CHECK.sentence("BYTES 0 .. 65535 lie in PAGES of 1024 (0 .. 63)", EdgeTermsTest::pagesEnd);
        CHECK.sentence("each with RIGHTS: 1 may be read, 2 written, 4 carried out (at first all: 7)", EdgeTermsTest::eachRight);
        CHECK.sentence("A HALF is two bytes, a WORD four, the lowest first.", EdgeTermsTest::lowestFirst);
        CHECK.sentence("An address is a number taken unsigned.", EdgeTermsTest::addressesAreUnsigned);
        CHECK.sentence("if its lowest two bits are 11, the instruction is LONG: the word there; otherwise SHORT: the half.", EdgeTermsTest::lengths);
        CHECK.sentence("TRAPS: then nothing changes but the CAUSE and the VALUE.", EdgeTermsTest::trapsChangeNothing);
        CHECK.sentence("1 FETCH: the place is odd", EdgeTermsTest::fetchOdd);
        CHECK.sentence("or a byte of the instruction isn't in 0 .. 65535", EdgeTermsTest::fetchAcrossTheEnd);
        CHECK.sentence("or on a page that may be carried out", EdgeTermsTest::fetchAcrossPages);
        CHECK.sentence("CAUSES, in the order in which they are asked: 1 before 2", EdgeTermsTest::fetchBeforeIllegal);
        CHECK.sentence("CAUSES, in the order in which they are asked: 2 before 5", EdgeTermsTest::illegalBeforeMisaligned);
        CHECK.sentence("CAUSES, in the order in which they are asked: 5 before 6 and 7", EdgeTermsTest::misalignedFirst);
        CHECK.sentence("2 ILLEGAL: the bits are no instruction below (value: they, a short one's upper half 0).", EdgeTermsTest::illegalValue);
        CHECK.sentence("3 CALL, 4 BREAK (value 0).", EdgeTermsTest::callAndBreak);
        CHECK.sentence("5 MISALIGNED: the address is no multiple of 2 for halves, of 4 for words", EdgeTermsTest::misaligned);
        CHECK.sentence("6 LOAD: a byte isn't there", EdgeTermsTest::loadsAtTheEnd);
        CHECK.sentence("or its page may not be read", EdgeTermsTest::loadsOfClosedPages);
        CHECK.sentence("7 STORE: likewise, written: a byte isn't there", EdgeTermsTest::storesAtTheEnd);
        CHECK.sentence("7 STORE: likewise, written: its page", EdgeTermsTest::storesToClosedPages);
        CHECK.sentence("value of these: the address", EdgeTermsTest::valueIsTheAddress);
        CHECK.sentence("an atomic one but a load reserved asks 5, 7, then 6", EdgeTermsTest::atomicOrder);
        CHECK.sentence("a load reserved 5, 6", EdgeTermsTest::loadReservedOrder);
        CHECK.sentence("What is carried out is RETIRED, counted from 0", EdgeTermsTest::retired);
        CHECK.sentence("(64 bits)", EdgeTermsTest::retiredHas64Bits);
        CHECK.sentence("Behind it the place is 2 or 4 more, or where it jumped to", EdgeTermsTest::placeBehind);
        CHECK.sentence("(the lowest bit of that being 0)", EdgeTermsTest::jumpsAreEven);
        CHECK.end();
    }

    private static void result(String what, int word, int a, int b, int due) {
        CHECK.same(what, Bench.result(CHECK, word, a, b), due);
    }

    private static void goesRound() {
        result("MAX + 1", Asm.r(0, 0, 7, 5, 6), MAX, 1, MIN);
        result("MIN + -1", Asm.r(0, 0, 7, 5, 6), MIN, -1, MAX);
        result("MIN + MIN", Asm.r(0, 0, 7, 5, 6), MIN, MIN, 0);
        result("MIN - 1", Asm.r(32, 0, 7, 5, 6), MIN, 1, MAX);
        result("MAX - -1", Asm.r(32, 0, 7, 5, 6), MAX, -1, MIN);
        result("0 - MIN", Asm.r(32, 0, 7, 5, 6), 0, MIN, MIN);
        result("MAX + 2047", Asm.i(0x13, 0, 7, 5, 2047), MAX, 0, MIN + 2046);
        result("MIN - 2048", Asm.i(0x13, 0, 7, 5, -2048), MIN, 0, MAX - 2047);
        result("65536 * 65536", Asm.r(1, 0, 7, 5, 6), 65536, 65536, 0);
        result("MAX * 2", Asm.r(1, 0, 7, 5, 6), MAX, 2, -2);
        result("MIN * -1", Asm.r(1, 0, 7, 5, 6), MIN, -1, MIN);
        result("MIN / -1", Asm.r(1, 4, 7, 5, 6), MIN, -1, MIN);
        result("-1 << 31", Asm.r(0, 1, 7, 5, 6), -1, 31, MIN);
        RiscHart x = Bench.hart(Asm.atomic(0, 7, 5, 6), 0x3000, 1);
        x.plant(0x3000, MAX);
        CHECK.same("step() of an atomic sum", x.step(), 0);
        CHECK.same("MAX + 1, atomic", Asm.word(x, 0x3000), MIN);
        shortGoesRound("x8 += 31", Half.of(1, 0, 0, 8, 31), MAX, 0, MIN + 30);
        shortGoesRound("x8 += -32", Half.of(1, 0, 1, 8, 0), MIN, 0, MAX - 31);
        shortGoesRound("x8 += x9", Half.of(2, 4, 1, 8, 9), MAX, 1, MIN);
        shortGoesRound("x8 - x9", Half.of(1, 4, 0, 3 << 3, 1), MIN, 1, MAX);
        shortGoesRound("x8 <<= 31", Half.of(2, 0, 0, 8, 31), 3, 0, MIN);
    }

    private static void shortGoesRound(String what, int half, int x8, int x9, int due) {
        RiscHart x = Bench.hart(half, 0, 0);
        x.set(8, x8);
        x.set(9, x9);
        CHECK.same("step() of " + what, x.step(), 0);
        CHECK.same(what, x.register(8), due);
    }

    private static void addressesGoRound() {
        RiscHart x = Bench.hart(Asm.lw(7, 5, 4), -4, 0);
        x.plant(0, 1234);
        CHECK.same("a load at -4 + 4", x.step(), 0);
        CHECK.same("the word at 0", x.register(7), 1234);
        RiscHart y = Bench.hart(Asm.sw(6, 5, 2047), -2043, 99);
        CHECK.same("a store at -2043 + 2047", y.step(), 0);
        CHECK.same("the word at 4", Asm.word(y, 4), 99);
        Traps.ask(CHECK, "a load at 4 - 8", Bench.hart(Asm.lw(7, 5, -8), 4, 0), Traps.LOAD, -4);
        Traps.ask(CHECK, "a store at 0 - 1", Bench.hart(Asm.s(0, 5, 6, -1), 0, 0), Traps.STORE, -1);
        Traps.ask(CHECK, "a load at MAX + 1", Bench.hart(Asm.lw(7, 5, 1), MAX, 0), Traps.LOAD, MIN);
        Traps.ask(CHECK, "a store at MIN - 4", Bench.hart(Asm.sw(6, 5, -4), MIN, 0), Traps.STORE, MAX - 3);
        RiscHart z = Bench.hart(Half.of(0, 2, 0, 0, 1 | 2 << 3), 0, 0);
        z.set(8, -4);
        z.plant(0, 4321);
        CHECK.same("a short load at -4 + 4", z.step(), 0);
        CHECK.same("the word at 0", z.register(9), 4321);
    }

    private static void placesGoRound() {
        jumpsTo("0x6f by -0x100000", Asm.j(0, -0x100000), 0, 0x100 - 0x100000);
        jumpsTo("0x67 to MAX + 1", Asm.i(0x67, 0, 0, 5, 1), MAX, MIN);
        jumpsTo("0x67 to MIN - 2", Asm.i(0x67, 0, 0, 5, -2), MIN, MAX - 1);
        jumpsTo("0x67 to -2 + 4", Asm.i(0x67, 0, 0, 5, 4), -2, 2);
        jumpsTo("0x63 by -4096", Asm.t(0, 0, 0, -4096), 0, 0x100 - 4096);
        jumpsTo("a short jump by -2048", 1 | 5 << 13 | Half.write(-2048, 12, "11|4|9:8|10|6|7|3:1|5"), 0, 0x100 - 2048);
        RiscHart x = Bench.hart(Asm.u(0x17, 7, 0x80000), 0, 0);
        CHECK.same("step() of 0x17", x.step(), 0);
        CHECK.same("0x17 with the highest bit", x.register(7), MIN + 0x100);
        RiscHart y = Bench.hart(Asm.u(0x17, 7, 0xfffff), 0, 0);
        CHECK.same("step() of 0x17", y.step(), 0);
        CHECK.same("0x17 with all bits", y.register(7), 0x100 - 0x1000);
    }

    private static void jumpsTo(String what, int word, int a, int due) {
        RiscHart x = Bench.hart(word, a, 0);
        CHECK.same("step() of " + what, x.step(), 0);
        CHECK.same("place behind " + what, x.count(0), due);
    }

    private static void zeroStays() {
        int[] words = {Asm.u(0x37, 0, -1), Asm.u(0x17, 0, 1), Asm.j(0, 8), Asm.i(0x67, 0, 0, 5, 0), Asm.i(0x03, 0, 0, 5, 0),
            Asm.i(0x03, 1, 0, 5, 0), Asm.lw(0, 5, 0), Asm.i(0x03, 4, 0, 5, 0), Asm.i(0x03, 5, 0, 5, 0), Asm.addi(0, 5, 1),
            Asm.i(0x13, 3, 0, 0, 1), Asm.i(0x13, 5, 0, 5, 1), Asm.i(0x13, 5, 0, 5, 1025), Asm.r(0, 0, 0, 5, 6), Asm.r(32, 0, 0, 5, 0),
            Asm.r(1, 0, 0, 5, 6), Asm.r(1, 4, 0, 5, 0), Asm.r(32, 5, 0, 5, 0), Asm.counter(2, 0, 0, 0xc01), Asm.counter(7, 0, 0, 0xc81),
            Asm.atomic(0, 0, 5, 6), Asm.atomic(1, 0, 5, 6), Asm.atomic(Asm.LR, 0, 5, 0), Asm.atomic(Asm.SC, 0, 5, 6),
            Half.of(1, 0, 0, 0, 5), Half.of(1, 2, 0, 0, 5), Half.of(1, 3, 0, 0, 5), Half.of(1, 5, 0, 1, 0), Half.of(2, 0, 0, 0, 5),
            Half.of(2, 4, 0, 0, 5), Half.of(2, 4, 1, 0, 5), Half.of(2, 4, 0, 5, 0)};
        for (int word : words) {
            RiscHart x = Bench.hart(word, 0x3000, 3);
            x.plant(0x3000, -1);
            x.clock(-1);
            CHECK.same("step() of " + Integer.toHexString(word), x.step(), 0);
            CHECK.same("x0 behind " + Integer.toHexString(word), x.register(0), 0);
            Asm.load(x, 0x200, Asm.addi(8, 0, 0));
            CHECK.same("step()", x.step(), 0);
            CHECK.same("x0 as a number", x.register(8), 0);
        }
    }

    /** The code lies in another page than the one that is closed. */
    private static int access(int word, int address, int page, int rights) {
        RiscHart x = new RiscHart();
        x.set(5, address);
        int place = page == 0 ? 0x400 : 0;
        Asm.load(x, place, word);
        x.rights(page, rights);
        return x.step();
    }

    private static void pagesEnd() {
        for (int page = 0; page < 64; page++) {
            int first = 1024 * page;
            for (int address : new int[] {first, first + 1, first + 511, first + 1022, first + 1023}) {
                CHECK.same("load at " + address + ", page " + page + " closed", access(LOAD_BYTE, address, page, 6), 6);
                CHECK.same("store at " + address + ", page " + page + " closed", access(STORE_BYTE, address, page, 5), 7);
            }
            int before = page == 0 ? 65535 : first - 1;
            int behind = page == 63 ? 0 : first + 1024;
            CHECK.same("load at " + before + ", page " + page + " closed", access(LOAD_BYTE, before, page, 0), 0);
            CHECK.same("store at " + before + ", page " + page + " closed", access(STORE_BYTE, before, page, 0), 0);
            CHECK.same("load at " + behind + ", page " + page + " closed", access(LOAD_BYTE, behind, page, 0), 0);
            CHECK.same("store at " + behind + ", page " + page + " closed", access(STORE_BYTE, behind, page, 0), 0);
            RiscHart x = new RiscHart();
            x.rights(page, 3);
            for (int place : new int[] {first, first + 1022, before - 1, behind}) {
                x.poke(place, SHORT_NOP);
                x.jump(place);
                CHECK.same("step() at " + place + ", page " + page + " closed", x.step(), place >> 10 == page ? 1 : 0);
            }
        }
    }

    private static void eachRight() {
        for (int rights = 0; rights < 8; rights++) {
            boolean mayRead = rights % 2 == 1;
            boolean mayWrite = rights / 2 % 2 == 1;
            boolean mayCarryOut = rights / 4 == 1;
            CHECK.same("load with rights " + rights, access(LOAD_WORD, 0x3000, 12, rights), mayRead ? 0 : 6);
            CHECK.same("store with rights " + rights, access(STORE_WORD, 0x3000, 12, rights), mayWrite ? 0 : 7);
            RiscHart x = new RiscHart();
            Asm.load(x, 0x3000, NOP);
            x.rights(12, rights);
            CHECK.same("step() with rights " + rights, x.step(), mayCarryOut ? 0 : 1);
            x.poke(0x3004, 200);
            x.plant(0x3008, 201);
            CHECK.same("poke() and peek() with rights " + rights, x.peek(0x3004), 200);
            CHECK.same("plant() and peek() with rights " + rights, x.peek(0x3008), 201);
        }
        CHECK.same("at first", new RiscHart().rights(12, 0), 7);
    }

    private static void lowestFirst() {
        RiscHart x = Bench.hart(STORE_WORD, 0x3004, 0x84838281);
        CHECK.same("step() of a store", x.step(), 0);
        for (int k = 0; k < 4; k++) {
            CHECK.same("byte " + k, x.peek(0x3004 + k), 0x81 + k);
        }
        Asm.load(x, 0x100, LOAD_WORD);
        CHECK.same("step() of a load", x.step(), 0);
        CHECK.same("the word", x.register(7), 0x84838281);
        Asm.load(x, 0x100, LOAD_UNSIGNED_HALF);
        CHECK.same("step() of a load", x.step(), 0);
        CHECK.same("the half", x.register(7), 0x8281);
        RiscHart y = Bench.hart(STORE_HALF, 0x3002, 0x84838281);
        CHECK.same("step() of a store", y.step(), 0);
        CHECK.same("the bytes around", Asm.word(y, 0x3000), 0x82810000);
        RiscHart z = new RiscHart();
        int word = Asm.addi(7, 0, 0x123);
        for (int k = 0; k < 4; k++) {
            z.poke(k, word >> 8 * k);
        }
        CHECK.same("step() of four bytes", z.step(), 0);
        CHECK.same("what they give", z.register(7), 0x123);
    }

    private static void addressesAreUnsigned() {
        for (int address : new int[] {-1, -2, -4, -65536, MIN, MIN + 65532}) {
            Traps.ask(CHECK, "a load at " + address, Bench.hart(LOAD_BYTE, address, 0), Traps.LOAD, address);
            Traps.ask(CHECK, "a store at " + address, Bench.hart(STORE_BYTE, address, 0), Traps.STORE, address);
            RiscHart x = new RiscHart();
            x.jump(address);
            Traps.ask(CHECK, "the place " + address, x, Traps.FETCH, address);
        }
    }

    private static void lengths() {
        for (int low = 0; low < 4; low++) {
            boolean isLong = low == 3;
            RiscHart x = new RiscHart();
            x.set(2, 0x3000);
            int half = new int[] {0x0800, 0x0001, 0x0002, NOP & 0xffff}[low];
            x.plant(0x100, half << 16);
            x.plant(0x104, 0);
            x.jump(0x102);
            CHECK.same("step() of lowest bits " + low, x.step(), 0);
            CHECK.same("place behind lowest bits " + low, x.count(0), isLong ? 0x106 : 0x104);
        }
        RiscHart y = new RiscHart();
        int word = Asm.u(0x37, 7, 0xabcde);
        y.plant(0x100, word << 16 | SHORT_NOP);
        y.plant(0x104, word >>> 16);
        y.jump(0x100);
        CHECK.same("run(2) of a short and a long one", y.run(2), 2);
        CHECK.same("place", y.count(0), 0x106);
        CHECK.same("the long one", y.register(7), 0xabcde000);
    }

    /** A hart of which all that can be told is not what it was when new. */
    private static RiscHart marked(int word, int a) {
        RiscHart x = new RiscHart();
        x.set(5, 0x3004);
        for (int k = 0; k < 16; k += 4) {
            x.plant(0x3000 + k, 0x01020304 + k);
        }
        Asm.load(x, 0x100, Asm.atomic(Asm.LR, 0, 5, 0), word);
        CHECK.same("step() that reserves", x.step(), 0);
        for (int r = 1; r < 32; r++) {
            x.set(r, 0x01010101 * r);
        }
        x.set(5, a);
        x.clock(0x0000000300000004L);
        for (int page = 20; page < 64; page++) {
            x.rights(page, page & 7);
        }
        return x;
    }

    private static void trapsAlone(String what, int word, int a, int place, int cause, int value) {
        RiscHart x = marked(word, a);
        x.jump(place);
        Traps.ask(CHECK, what, x, cause, value);
        for (int page = 20; page < 64; page++) {
            CHECK.same("rights behind " + what, x.rights(page, 7), page & 7);
        }
        Asm.load(x, 0x200, Asm.counter(2, 8, 0, 0xc01), Asm.counter(2, 9, 0, 0xc81));
        CHECK.same("run(2) behind " + what, x.run(2), 2);
        CHECK.same("clock behind " + what, x.register(8), 4);
        CHECK.same("clock behind " + what, x.register(9), 3);
    }

    private static void trapsChangeNothing() {
        trapsAlone("an odd place", NOP, 0, 0x105, Traps.FETCH, 0x105);
        trapsAlone("an illegal word", Asm.r(2, 0, 7, 5, 6), 0, 0x104, Traps.ILLEGAL, Asm.r(2, 0, 7, 5, 6));
        trapsAlone("an illegal half", 0x6081, 0, 0x104, Traps.ILLEGAL, 0x6081);
        trapsAlone("a call", Asm.CALL, 0, 0x104, Traps.CALL, 0);
        trapsAlone("a break", Asm.BREAK, 0, 0x104, Traps.BREAK, 0);
        trapsAlone("a short break", 0x9002, 0, 0x104, Traps.BREAK, 0);
        for (int word : new int[] {LOAD_HALF, LOAD_WORD, STORE_HALF, STORE_WORD, LOAD_RESERVED, CHANGES[0], CHANGES[2]}) {
            trapsAlone("misaligned " + Integer.toHexString(word), word, 0x3005, 0x104, Traps.MISALIGNED, 0x3005);
        }
        for (int word : new int[] {LOAD_BYTE, LOAD_HALF, LOAD_WORD, LOAD_RESERVED}) {
            trapsAlone("no such byte, " + Integer.toHexString(word), word, 65536, 0x104, Traps.LOAD, 65536);
        }
        for (int word : new int[] {STORE_BYTE, STORE_HALF, STORE_WORD, CHANGES[0], CHANGES[1], CHANGES[2]}) {
            trapsAlone("no such byte, " + Integer.toHexString(word), word, 65536, 0x104, Traps.STORE, 65536);
        }
        trapsAlone("an atomic one that may not read", CHANGES[0], 0xa800, 0x104, Traps.LOAD, 0xa800);
        trapsAlone("a store conditional that may not read", CHANGES[2], 0xa800, 0x104, Traps.LOAD, 0xa800);
    }

    private static void fetchOdd() {
        for (int place : new int[] {1, 3, 0x101, 0x103, 1023, 1025, 65533, 65535, 65537, -1, MAX, MIN + 1}) {
            RiscHart x = new RiscHart();
            for (int address = 0x100; address < 0x108; address++) {
                x.poke(address, 0x01);
            }
            x.jump(place);
            Traps.ask(CHECK, "the place " + place, x, Traps.FETCH, place);
        }
    }

    private static void fetchAcrossTheEnd() {
        RiscHart x = new RiscHart();
        x.plant(65532, NOP);
        x.jump(65532);
        CHECK.same("step() of a long one in the last word", x.step(), 0);
        CHECK.same("place behind it", x.count(0), 65536);
        Traps.ask(CHECK, "the place behind the last byte", x, Traps.FETCH, 65536);
        x.plant(65532, SHORT_NOP << 16);
        x.jump(65534);
        CHECK.same("step() of a short one in the last half", x.step(), 0);
        CHECK.same("place behind it", x.count(0), 65536);
        RiscHart y = new RiscHart();
        y.plant(0, 0);
        y.plant(65532, NOP << 16);
        y.jump(65534);
        Traps.ask(CHECK, "a long one across the end", y, Traps.FETCH, 65534);
        for (int place : new int[] {65536, 65538, 0x20000, 0x10000000, MAX - 1, MIN, -65536, -4, -2}) {
            RiscHart z = new RiscHart();
            z.plant(0, NOP);
            z.jump(place);
            Traps.ask(CHECK, "the place " + place, z, Traps.FETCH, place);
        }
    }

    private static RiscHart acrossPages(int rightsBefore, int rightsBehind) {
        RiscHart x = new RiscHart();
        x.plant(0x7fc, NOP << 16);
        x.plant(0x800, NOP >>> 16);
        x.rights(1, rightsBefore);
        x.rights(2, rightsBehind);
        x.jump(0x7fe);
        return x;
    }

    private static void fetchAcrossPages() {
        for (int rights = 0; rights < 8; rights++) {
            RiscHart behind = acrossPages(7, rights);
            RiscHart before = acrossPages(rights, 7);
            if (rights < 4) {
                Traps.ask(CHECK, "an end with rights " + rights, behind, Traps.FETCH, 0x7fe);
                Traps.ask(CHECK, "a beginning with rights " + rights, before, Traps.FETCH, 0x7fe);
            } else {
                CHECK.same("step() of an end with rights " + rights, behind.step(), 0);
                CHECK.same("step() of a beginning with rights " + rights, before.step(), 0);
                CHECK.same("place behind it", before.count(0), 0x802);
            }
        }
        RiscHart x = acrossPages(4, 0);
        x.plant(0x7fc, SHORT_NOP << 16);
        CHECK.same("step() of a short one before a closed page", x.step(), 0);
        Traps.ask(CHECK, "the closed page", x, Traps.FETCH, 0x800);
    }

    private static void fetchBeforeIllegal() {
        RiscHart x = new RiscHart();
        x.plant(65532, -1);
        x.jump(65534);
        Traps.ask(CHECK, "an illegal long one across the end", x, Traps.FETCH, 65534);
        RiscHart y = acrossPages(7, 3);
        y.plant(0x7fc, -1);
        Traps.ask(CHECK, "an illegal long one across to a closed page", y, Traps.FETCH, 0x7fe);
        RiscHart z = acrossPages(3, 7);
        z.plant(0x7fc, 0);
        Traps.ask(CHECK, "an illegal half on a closed page", z, Traps.FETCH, 0x7fe);
        RiscHart w = new RiscHart();
        w.jump(1);
        Traps.ask(CHECK, "an illegal half at an odd place", w, Traps.FETCH, 1);
        RiscHart v = acrossPages(3, 7);
        v.plant(0x400, Asm.CALL);
        v.jump(0x400);
        Traps.ask(CHECK, "a call on a closed page", v, Traps.FETCH, 0x400);
    }

    private static void illegalBeforeMisaligned() {
        int[] words = {Asm.i(0x03, 3, 7, 5, 0), Asm.i(0x03, 6, 7, 5, 0), Asm.i(0x03, 7, 7, 5, 0), Asm.s(3, 5, 6, 0), Asm.s(7, 5, 6, 0),
            Asm.atomic(2, 7, 5, 6), Asm.atomic(5, 7, 5, 6), Asm.atomic(31, 7, 5, 6), Asm.atomic(0, 7, 5, 6) ^ 1 << 12};
        for (int word : words) {
            for (int address : new int[] {0x3001, 65535, 65536, -1}) {
                Traps.ask(CHECK, "an illegal access at " + address, Bench.hart(word, address, 0), Traps.ILLEGAL, word);
            }
        }
        RiscHart x = Bench.hart(Half.of(2, 2, 0, 0, 0), 0, 0);
        x.set(2, 0x3001);
        Traps.ask(CHECK, "an illegal short load", x, Traps.ILLEGAL, 0x4002);
    }

    private static void misalignedFirst() {
        int[] halves = {LOAD_HALF, LOAD_UNSIGNED_HALF, STORE_HALF};
        int[] words = {LOAD_WORD, STORE_WORD, LOAD_RESERVED, CHANGES[0], CHANGES[1], CHANGES[2], CHANGES[9]};
        for (int address : new int[] {0x3001, 0x3003, 65535, 65537, -1, MIN + 1}) {
            for (int word : halves) {
                misalignedWhereClosed(word, address);
            }
        }
        for (int address : new int[] {0x3001, 0x3002, 0x3003, 65533, 65534, 65535, 65537, 65538, -1, -2, -3, MIN + 2}) {
            for (int word : words) {
                misalignedWhereClosed(word, address);
            }
        }
    }

    private static void misalignedWhereClosed(int word, int address) {
        RiscHart x = Bench.hart(word, address, 0);
        x.rights(12, 0);
        x.rights(63, 0);
        Traps.ask(CHECK, Integer.toHexString(word) + " at " + address, x, Traps.MISALIGNED, address);
    }

    private static void illegalValue() {
        for (int word : new int[] {0xffffffff, 0x8000007f, 0x7fffffff, 0x0000000b, 0x0000007f, 0xfe000033, 0x00200073}) {
            RiscHart x = Bench.hart(word, 0, 0);
            Traps.ask(CHECK, "word " + Integer.toHexString(word), x, Traps.ILLEGAL, word);
        }
        for (int half : new int[] {0x0000, 0x2000, 0x9c01, 0x6101, 0x8002, 0x4002, 0xfffe, 0xe000}) {
            for (int upper : new int[] {0, 1, 0x7fff, 0x8000, 0xffff}) {
                RiscHart x = Bench.hart(half | upper << 16, 0, 0);
                Traps.ask(CHECK, "half " + Integer.toHexString(half), x, Traps.ILLEGAL, half);
            }
        }
        RiscHart y = new RiscHart();
        y.plant(0x100, 0x0001_0001);
        y.plant(0x104, 0xffff_fffb);
        y.jump(0x102);
        CHECK.same("run(2)", y.run(2), 1);
        CHECK.same("value", y.count(2), 0xfffffffb);
    }

    private static void callAndBreak() {
        int[][] rows = {{Asm.CALL, Traps.CALL}, {Asm.BREAK, Traps.BREAK}, {0x9002, Traps.BREAK}, {0xffff9002, Traps.BREAK}};
        for (int[] row : rows) {
            RiscHart x = Bench.hart(row[0], 0x3000, 0x3000);
            x.jump(7);
            CHECK.same("step() at 7", x.step(), 1);
            CHECK.same("value", x.count(2), 7);
            x.jump(0x100);
            Traps.ask(CHECK, Integer.toHexString(row[0]), x, row[1], 0);
        }
    }

    private static void misaligned() {
        for (int low = 0; low < 4; low++) {
            for (int base : new int[] {0, 0x3000, 0x33fc, 65532}) {
                int address = base + low;
                asked(LOAD_BYTE, address, false);
                asked(LOAD_UNSIGNED_BYTE, address, false);
                asked(STORE_BYTE, address, false);
                for (int word : new int[] {LOAD_HALF, LOAD_UNSIGNED_HALF, STORE_HALF}) {
                    asked(word, address, low % 2 != 0);
                }
                for (int word : new int[] {LOAD_WORD, STORE_WORD, LOAD_RESERVED}) {
                    asked(word, address, low != 0);
                }
                for (int word : CHANGES) {
                    asked(word, address, low != 0);
                }
            }
        }
    }

    private static void asked(int word, int address, boolean isMisaligned) {
        RiscHart x = Bench.hart(word, address, 0);
        String what = Integer.toHexString(word) + " at " + address;
        if (isMisaligned) {
            Traps.ask(CHECK, what, x, Traps.MISALIGNED, address);
        } else {
            CHECK.same("step() of " + what, x.step(), 0);
        }
    }

    /** The bytes are watched where such an address would lie if it went round. */
    private static void notThere(int word, int cause) {
        for (int address : NOT_THERE) {
            RiscHart x = Bench.hart(word, address, -1);
            Traps.ask(CHECK, Integer.toHexString(word) + " at " + address, x, cause, address, address & 0xfff0);
        }
    }

    private static void loadsAtTheEnd() {
        result("the last byte", LOAD_BYTE, 65535, 0, 0);
        result("the last byte, unsigned", LOAD_UNSIGNED_BYTE, 65535, 0, 0);
        result("the last half", LOAD_HALF, 65534, 0, 0);
        result("the last half, unsigned", LOAD_UNSIGNED_HALF, 65534, 0, 0);
        result("the last word", LOAD_WORD, 65532, 0, 0);
        result("the last word, reserved", LOAD_RESERVED, 65532, 0, 0);
        for (int word : new int[] {LOAD_BYTE, LOAD_HALF, LOAD_WORD, LOAD_UNSIGNED_BYTE, LOAD_UNSIGNED_HALF, LOAD_RESERVED}) {
            notThere(word, Traps.LOAD);
        }
        Traps.ask(CHECK, "a load into x0", Bench.hart(Asm.lw(0, 5, 0), 65536, 0), Traps.LOAD, 65536);
    }

    private static void closed(int word, int address, int rights, int cause) {
        RiscHart x = Bench.hart(word, address, 9);
        x.rights(12, rights);
        String what = Integer.toHexString(word) + " at " + address + " with rights " + rights;
        if (cause != 0) {
            Traps.ask(CHECK, what, x, cause, address);
        } else {
            CHECK.same("step() of " + what, x.step(), 0);
        }
    }

    private static void loadsOfClosedPages() {
        for (int rights = 0; rights < 8; rights++) {
            int cause = (rights & 1) == 0 ? Traps.LOAD : 0;
            closed(LOAD_BYTE, 0x3000, rights, cause);
            closed(LOAD_BYTE, 0x33ff, rights, cause);
            closed(LOAD_UNSIGNED_BYTE, 0x33ff, rights, cause);
            closed(LOAD_HALF, 0x33fe, rights, cause);
            closed(LOAD_UNSIGNED_HALF, 0x33fe, rights, cause);
            closed(LOAD_WORD, 0x33fc, rights, cause);
            closed(LOAD_RESERVED, 0x33fc, rights, cause);
            closed(Asm.lw(0, 5, 0), 0x3000, rights, cause);
            closed(LOAD_WORD, 0x3400, rights, 0);
            closed(LOAD_WORD, 0x2ffc, rights, 0);
        }
    }

    private static void storesAtTheEnd() {
        RiscHart x = new RiscHart();
        x.set(5, 65532);
        x.set(6, 0x44332211);
        Asm.load(x, 0x100, Asm.s(2, 5, 6, 0), Asm.s(1, 5, 6, 2), Asm.s(0, 5, 6, 3));
        CHECK.same("the last word", x.step(), 0);
        CHECK.same("the last word", Asm.word(x, 65532), 0x44332211);
        CHECK.same("the last half", x.step(), 0);
        CHECK.same("the last half", Asm.word(x, 65532), 0x22112211);
        CHECK.same("the last byte", x.step(), 0);
        CHECK.same("the last byte", Asm.word(x, 65532), 0x11112211);
        for (int word : new int[] {STORE_BYTE, STORE_HALF, STORE_WORD}) {
            notThere(word, Traps.STORE);
        }
    }

    private static void storesToClosedPages() {
        for (int rights = 0; rights < 8; rights++) {
            int cause = (rights & 2) == 0 ? Traps.STORE : 0;
            closed(STORE_BYTE, 0x3000, rights, cause);
            closed(STORE_BYTE, 0x33ff, rights, cause);
            closed(STORE_HALF, 0x33fe, rights, cause);
            closed(STORE_WORD, 0x33fc, rights, cause);
            closed(STORE_WORD, 0x3000, rights, cause);
            closed(STORE_WORD, 0x3400, rights, 0);
            closed(STORE_WORD, 0x2ffc, rights, 0);
        }
    }

    private static void valueIsTheAddress() {
        Traps.ask(CHECK, "a misaligned load", Bench.hart(Asm.lw(7, 5, -3), 0x3004, 0), Traps.MISALIGNED, 0x3001);
        Traps.ask(CHECK, "a misaligned store", Bench.hart(Asm.sw(6, 5, 2), 0x3004, 0), Traps.MISALIGNED, 0x3006);
        Traps.ask(CHECK, "a load", Bench.hart(Asm.lw(7, 5, 4), 65532, 0), Traps.LOAD, 65536);
        Traps.ask(CHECK, "a store", Bench.hart(Asm.sw(6, 5, 4), 65532, 0), Traps.STORE, 65536);
        Traps.ask(CHECK, "an atomic one", Bench.hart(CHANGES[0], 0x3002, 0), Traps.MISALIGNED, 0x3002);
        RiscHart x = Bench.hart(Half.of(2, 2, 0, 7, 4), 0, 0);
        x.set(2, 65532);
        Traps.ask(CHECK, "a short load on the stack", x, Traps.LOAD, 65536);
        RiscHart y = Bench.hart(Half.of(0, 6, 0, 0, 1 | 2 << 3), 0, 0);
        y.set(8, 0x3001);
        Traps.ask(CHECK, "a short store", y, Traps.MISALIGNED, 0x3005);
    }

    private static void atomicOrder() {
        for (int word : CHANGES) {
            for (int rights = 0; rights < 8; rights++) {
                int cause = (rights & 2) == 0 ? Traps.STORE : (rights & 1) == 0 ? Traps.LOAD : 0;
                closed(word, 0x3000, rights, cause);
                closed(word, 0x33fc, rights, cause);
                closed(word, 0x3400, rights, 0);
                closed(word, 0x3002, rights, Traps.MISALIGNED);
            }
            notThere(word, Traps.STORE);
            RiscHart last = Bench.hart(word, 65532, 0);
            CHECK.same("step() of " + Integer.toHexString(word) + " at the last word", last.step(), 0);
        }
    }

    private static void loadReservedOrder() {
        for (int rights = 0; rights < 8; rights++) {
            closed(LOAD_RESERVED, 0x3000, rights, (rights & 1) == 0 ? Traps.LOAD : 0);
            closed(LOAD_RESERVED, 0x3001, rights, Traps.MISALIGNED);
        }
        for (int address : new int[] {65537, 65538, -1, -2}) {
            Traps.ask(CHECK, "at " + address, Bench.hart(LOAD_RESERVED, address, 0), Traps.MISALIGNED, address);
        }
        notThere(LOAD_RESERVED, Traps.LOAD);
    }

    private static void retired() {
        RiscHart x = new RiscHart();
        Asm.load(x, 0, NOP, 0x00010001, Asm.j(0, 4), Asm.t(1, 0, 0, 8), Asm.sw(0, 0, 0x300), LOAD_WORD, Asm.CALL);
        for (int k = 0; k < 7; k++) {
            CHECK.same("retired before step " + k, x.count(3), k);
            CHECK.same("step " + k, x.step(), 0);
        }
        CHECK.same("step() of a call", x.step(), 3);
        CHECK.same("retired behind a trap", x.count(3), 7);
    }

    /** So many steps are out of reach of 512 calls: where the count lies in such a field, it is put there. */
    private static void retiredHas64Bits() {
        RiscHart x = new RiscHart();
        Asm.load(x, 0, Asm.counter(2, 7, 0, 0xc80), Asm.counter(2, 8, 0, 0xc02), Asm.counter(2, 9, 0, 0xc82));
        CHECK.same("retired in a new object", x.count(3), 0);
        try {
            Field retired = RiscHart.class.getDeclaredField("retired");
            retired.setAccessible(true);
            retired.setLong(x, 0xffffffffL);
        } catch (ReflectiveOperationException e) {
            System.out.println("not asked, for want of such a field: the upper half of the retired ones");
            return;
        }
        CHECK.same("run(3)", x.run(3), 3);
        CHECK.same("retired", x.count(3), 0x100000002L);
        CHECK.same("the upper half before", x.register(7), 0);
        CHECK.same("the lower half behind", x.register(8), 0);
        CHECK.same("the upper half behind", x.register(9), 1);
    }

    private static void placeBehind() {
        jumpsTo("a long one", NOP, 0, 0x104);
        jumpsTo("a short one", SHORT_NOP, 0, 0x102);
        jumpsTo("a branch that does not hold", Asm.t(1, 0, 0, 64), 0, 0x104);
        jumpsTo("a branch that holds", Asm.t(0, 0, 0, 64), 0, 0x140);
        jumpsTo("a branch to itself", Asm.t(0, 0, 0, 0), 0, 0x100);
        jumpsTo("a jump to itself", Asm.j(0, 0), 0, 0x100);
        jumpsTo("a jump to a half", Asm.j(0, 6), 0, 0x106);
        jumpsTo("a short branch that does not hold", Half.of(1, 7, 0, 0, 4), 0, 0x102);
        jumpsTo("a short branch that holds", Half.of(1, 6, 0, 0, 2), 0, 0x102);
        jumpsTo("a short branch that holds", Half.of(1, 6, 0, 0, 4), 0, 0x104);
    }

    private static void jumpsAreEven() {
        jumpsTo("0x67 to an odd number", Asm.i(0x67, 0, 0, 5, 0), 0x201, 0x200);
        jumpsTo("0x67 by an odd number", Asm.i(0x67, 0, 0, 5, 1), 0x200, 0x200);
        jumpsTo("0x67 to an odd number by another", Asm.i(0x67, 0, 0, 5, 1), 0x201, 0x202);
        jumpsTo("0x67 to -1", Asm.i(0x67, 0, 0, 0, -1), 0, -2);
        jumpsTo("0x67 to MAX", Asm.i(0x67, 0, 0, 5, 0), MAX, MAX - 1);
        jumpsTo("a short jump to an odd number", Half.of(2, 4, 0, 5, 0), 0x201, 0x200);
        jumpsTo("a short jump with link to an odd number", Half.of(2, 4, 1, 5, 0), 0x201, 0x200);
        jumpsTo("a short jump to -1", Half.of(2, 4, 0, 5, 0), -1, -2);
    }
}
