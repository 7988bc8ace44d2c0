/** Promise 10: causes, the order in which they are asked, their values, and that nothing else changes. */
public final class TrapTest {
    private static final Check CHECK = new Check();
    private static final int FETCH = Traps.FETCH;
    private static final int ILLEGAL = Traps.ILLEGAL;
    private static final int MISALIGNED = Traps.MISALIGNED;
    private static final int LOAD = Traps.LOAD;
    private static final int STORE = Traps.STORE;
    private static final int NOP = Asm.addi(0, 0, 0);

    public static void main(String[] args) {
        fetchOfThePlace();
        fetchAcrossPages();
        fetchAtTheEnd();
        illegal();
        callAndBreak();
        misaligned();
        loads();
        stores();
        atomics();
        orderOfCauses();
        linksOfTraps();
        CHECK.end();
    }

    private static void traps(String what, RiscHart x, int cause, int value) {
        Traps.ask(CHECK, what, x, cause, value);
    }

    /** A hart with the word 0x3004 reserved and a mark in every register. */
    private static RiscHart hart() {
        RiscHart x = new RiscHart();
        x.set(5, 0x3004);
        Asm.load(x, 0x100, Asm.atomic(Asm.LR, 0, 5, 0));
        CHECK.same("step() that reserves", x.step(), 0);
        for (int r = 1; r < 32; r++) {
            x.set(r, 0x01010101 * r);
        }
        for (int k = 0; k < 16; k++) {
            x.poke(k < 4 || k > 7 ? 0x3000 + k : 0x2000, 0xf0 + k);
        }
        CHECK.same("reserved", x.count(4), 0x3004);
        return x;
    }

    private static void fetchOfThePlace() {
        for (int place : new int[] {1, 3, 65535, 65536, 65538, 0x10000000, -1, -2, -4, Integer.MIN_VALUE, Integer.MAX_VALUE}) {
            RiscHart x = hart();
            x.jump(place);
            traps("place " + place, x, FETCH, place);
        }
        for (int rights = 0; rights < 8; rights++) {
            RiscHart x = new RiscHart();
            x.plant(1024, NOP);
            x.rights(1, rights);
            x.jump(1024);
            CHECK.same("step() with rights " + rights, x.step(), rights >= 4 ? 0 : FETCH);
            CHECK.same("value", x.count(2), rights >= 4 ? 0 : 1024);
        }
    }

    private static void fetchAcrossPages() {
        RiscHart x = hart();
        x.poke(1022, NOP);
        x.poke(1023, NOP >> 8);
        x.rights(1, 3);
        x.jump(1022);
        traps("a long one whose end may not be carried out", x, FETCH, 1022);
        x.rights(1, 4);
        CHECK.same("step() when it may", x.step(), 0);
        CHECK.same("place", x.count(0), 1026);
        x.rights(1, 3);
        x.poke(1022, 1);
        x.jump(1022);
        CHECK.same("step() of a short one before the closed page", x.step(), 0);
        traps("the closed page", x, FETCH, 1024);
        x.rights(1, 7);
        x.rights(0, 3);
        x.poke(1022, 3);
        x.jump(1022);
        traps("a long one whose beginning may not", x, FETCH, 1022);
    }

    private static void fetchAtTheEnd() {
        RiscHart x = hart();
        x.plant(65532, 0x0003_0001);
        x.jump(65534);
        traps("a long one that is not all there", x, FETCH, 65534);
        x.plant(65532, 0x0001_0001);
        x.jump(65532);
        CHECK.same("run(3) to the end", x.run(3), 2);
        CHECK.same("place", x.count(0), 65536);
        CHECK.same("value", x.count(2), 65536);
        x.plant(65532, NOP);
        x.jump(65532);
        CHECK.same("step() of a long one at the end", x.step(), 0);
    }

    private static void illegal() {
        for (int word : new int[] {0xffffffff, 0x8000007f, 0x00000003 | 7 << 12, 0x0000000b, 0x30200073}) {
            RiscHart x = hart();
            Asm.load(x, 0x100, word);
            traps("word " + Integer.toHexString(word), x, ILLEGAL, word);
        }
        for (int half : new int[] {0x0000, 0x8000, 0x2000, 0x9c01, 0x6101, 0x8002, 0x4002, 0xfffe}) {
            RiscHart x = hart();
            Asm.load(x, 0x100, 0xabcd0000 | half);
            traps("half " + Integer.toHexString(half), x, ILLEGAL, half);
        }
    }

    private static void callAndBreak() {
        int[][] rows = {{Asm.CALL, 3}, {Asm.BREAK, 4}, {0xffff9002, 4}};
        for (int[] row : rows) {
            RiscHart x = hart();
            x.jump(-1);
            x.step();
            Asm.load(x, 0x100, row[0]);
            traps("word " + Integer.toHexString(row[0]), x, row[1], 0);
        }
    }

    private static void access(String what, int word, int a, int rights, int cause) {
        RiscHart x = hart();
        x.set(5, a);
        if (a >= 0x400 && a < 65536) {
            x.rights(a >> 10, rights);
        }
        Asm.load(x, 0x100, word);
        if (cause != 0) {
            traps(what + " at " + a + " with rights " + rights, x, cause, a);
        } else {
            CHECK.same(what + " at " + a + " with rights " + rights, x.step(), 0);
        }
    }

    private static void misaligned() {
        for (int low = 0; low < 4; low++) {
            int at = 0x3008 + low;
            int half = (low & 1) != 0 ? MISALIGNED : 0;
            int word = low != 0 ? MISALIGNED : 0;
            access("load of a byte", Asm.i(0x03, 0, 6, 5, 0), at, 7, 0);
            access("load of a half", Asm.i(0x03, 1, 6, 5, 0), at, 7, half);
            access("load of a word", Asm.i(0x03, 2, 6, 5, 0), at, 7, word);
            access("load of an unsigned byte", Asm.i(0x03, 4, 6, 5, 0), at, 7, 0);
            access("load of an unsigned half", Asm.i(0x03, 5, 6, 5, 0), at, 7, half);
            access("store of a byte", Asm.s(0, 5, 6, 0), at, 7, 0);
            access("store of a half", Asm.s(1, 5, 6, 0), at, 7, half);
            access("store of a word", Asm.s(2, 5, 6, 0), at, 7, word);
            for (int k : new int[] {0, 1, 3, 4, 8, 12, 16, 20, 24, 28}) {
                access("atomic " + k, Asm.atomic(k, 6, 5, 7), at, 7, word);
            }
            access("load reserved", Asm.atomic(Asm.LR, 6, 5, 0), at, 7, word);
        }
    }

    private static void loads() {
        for (int f : new int[] {0, 1, 2, 4, 5}) {
            for (int d : new int[] {0, 5, 6}) {
                int word = Asm.i(0x03, f, d, 5, 0);
                for (int rights = 0; rights < 8; rights++) {
                    access("load", word, 0x3008, rights, (rights & 1) != 0 ? 0 : LOAD);
                }
                for (int at : new int[] {65536, 65540, 0x20000, -4, Integer.MIN_VALUE, 0x7ffffffc}) {
                    access("load", word, at, 7, LOAD);
                }
            }
        }
        access("load of the last byte", Asm.i(0x03, 0, 6, 5, 0), 65535, 1, 0);
        access("load of the last half", Asm.i(0x03, 1, 6, 5, 0), 65534, 1, 0);
        access("load of the last word", Asm.i(0x03, 2, 6, 5, 0), 65532, 1, 0);
    }

    private static void stores() {
        for (int f : new int[] {0, 1, 2}) {
            int word = Asm.s(f, 5, 6, 0);
            for (int rights = 0; rights < 8; rights++) {
                access("store", word, 0x3004, rights, (rights & 2) != 0 ? 0 : STORE);
            }
            for (int at : new int[] {65536, 65540, 0x20000, -4, Integer.MIN_VALUE, 0x7ffffffc}) {
                access("store", word, at, 7, STORE);
            }
        }
        access("store of the last byte", Asm.s(0, 5, 6, 0), 65535, 2, 0);
        access("store of the last word", Asm.s(2, 5, 6, 0), 65532, 2, 0);
    }

    private static void atomics() {
        for (int rights = 0; rights < 8; rights++) {
            int due = (rights & 2) == 0 ? STORE : (rights & 1) == 0 ? LOAD : 0;
            for (int k : new int[] {0, 1, 3, 4, 8, 12, 16, 20, 24, 28}) {
                access("atomic " + k, Asm.atomic(k, 6, 5, 7), 0x3004, rights, due);
                access("atomic " + k, Asm.atomic(k, 6, 5, 7), 0x3008, rights, due);
            }
            access("load reserved", Asm.atomic(Asm.LR, 6, 5, 0), 0x3008, rights, (rights & 1) == 0 ? LOAD : 0);
        }
        for (int at : new int[] {65536, -4, Integer.MIN_VALUE}) {
            access("atomic", Asm.atomic(0, 6, 5, 7), at, 7, STORE);
            access("store conditional", Asm.atomic(Asm.SC, 6, 5, 7), at, 7, STORE);
            access("load reserved", Asm.atomic(Asm.LR, 6, 5, 0), at, 7, LOAD);
        }
    }

    private static void orderOfCauses() {
        access("misaligned before load", Asm.lw(6, 5, 0), 0x3002, 0, MISALIGNED);
        access("misaligned before load, not there", Asm.lw(6, 5, 0), 65534, 7, MISALIGNED);
        access("misaligned before load, not there", Asm.lw(6, 5, 0), -1, 7, MISALIGNED);
        access("misaligned before store", Asm.sw(6, 5, 0), 0x3001, 0, MISALIGNED);
        access("misaligned before store, atomic", Asm.atomic(0, 6, 5, 7), 0x3001, 0, MISALIGNED);
        access("misaligned before load, reserved", Asm.atomic(Asm.LR, 6, 5, 0), 0x3001, 0, MISALIGNED);
        illegalBeforeMisaligned(Asm.i(0x03, 3, 6, 5, 0));
        illegalBeforeMisaligned(Asm.s(3, 5, 6, 0));
        illegalBeforeMisaligned(Asm.atomic(5, 6, 5, 7));
        illegalBeforeMisaligned(Asm.atomic(Asm.LR, 6, 5, 7));
        RiscHart x = hart();
        Asm.load(x, 0x400, -1);
        x.rights(1, 3);
        traps("fetch before illegal", x, FETCH, 0x400);
    }

    private static void illegalBeforeMisaligned(int word) {
        RiscHart x = hart();
        x.set(5, 0x3001);
        Asm.load(x, 0x100, word);
        traps("illegal before misaligned", x, ILLEGAL, word);
    }

    /** A jump to a place that can't be fetched is carried out; only the next step traps. */
    private static void linksOfTraps() {
        RiscHart x = new RiscHart();
        x.set(5, 0x12345);
        Asm.load(x, 0x100, Asm.i(0x67, 0, 1, 5, 0));
        CHECK.same("step() of a jump to nowhere", x.step(), 0);
        CHECK.same("link", x.register(1), 0x104);
        traps("nowhere", x, FETCH, 0x12344);
    }
}
