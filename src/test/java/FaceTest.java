/** Promises 1 to 9 and 12, and what the face throws (promise 11 too). */
public final class FaceTest {
    private static final Check CHECK = new Check();
    private static final Class<IndexOutOfBoundsException> INDEX = IndexOutOfBoundsException.class;
    private static final Class<IllegalArgumentException> ARGUMENT = IllegalArgumentException.class;

    public static void main(String[] args) {
        newObject();
        objectsAreApart();
        pokeAndPeek();
        plant();
        rights();
        registers();
        jump();
        clock();
        run();
        count();
        CHECK.end();
    }

    private static void newObject() {
        RiscHart x = new RiscHart();
        for (int what = 0; what < 4; what++) {
            CHECK.same("new count(" + what + ")", x.count(what), 0);
        }
        CHECK.same("new count(4)", x.count(4), -1);
        for (int r = 0; r < 32; r++) {
            CHECK.same("new register(" + r + ")", x.register(r), 0);
        }
        for (int page = 0; page < 64; page++) {
            CHECK.same("new rights(" + page + ")", x.rights(page, 7), 7);
        }
        for (int page = 0; page < 64; page++) {
            newPage(1024 * page);
            newPage(1024 * page + 512);
        }
        RiscHart y = new RiscHart();
        y.plant(0, Asm.counter(2, 5, 0, 0xc01));
        y.set(5, 9);
        CHECK.same("new step()", y.step(), 0);
        CHECK.same("new clock", y.register(5), 0);
    }

    /** An object is used for 512 calls at most. */
    private static void newPage(int first) {
        RiscHart x = new RiscHart();
        for (int address = first; address < first + 512; address++) {
            CHECK.same("new peek(" + address + ")", x.peek(address), 0);
        }
    }

    private static void objectsAreApart() {
        RiscHart x = new RiscHart();
        RiscHart y = new RiscHart();
        x.poke(7, 1);
        x.set(3, 4);
        x.rights(2, 0);
        CHECK.same("another's peek(7)", y.peek(7), 0);
        CHECK.same("another's register(3)", y.register(3), 0);
        CHECK.same("another's rights(2)", y.rights(2, 7), 7);
    }

    private static void pokeAndPeek() {
        RiscHart x = new RiscHart();
        int[] addresses = {0, 1, 2, 3, 4, 1023, 1024, 32768, 65532, 65533, 65534, 65535};
        for (int address : addresses) {
            x.poke(address, 0xabcd00 | (address * 7 + 200 & 0xff));
        }
        for (int address : addresses) {
            CHECK.same("peek(" + address + ")", x.peek(address), address * 7 + 200 & 0xff);
        }
        x.poke(2, -1);
        CHECK.same("peek(2) after poke(2, -1)", x.peek(2), 255);
        CHECK.same("peek(1) beside it", x.peek(1), 207);
        CHECK.same("peek(3) beside it", x.peek(3), 221);
        x.poke(2, 256);
        CHECK.same("peek(2) after poke(2, 256)", x.peek(2), 0);
        x.rights(0, 0);
        x.poke(9, 5);
        CHECK.same("a closed page is none to peek and poke", x.peek(9), 5);
        for (int address : new int[] {-1, 65536, 65537, 131072, Integer.MIN_VALUE, Integer.MAX_VALUE}) {
            CHECK.thrown("poke(" + address + ")", INDEX, () -> x.poke(address, 1));
            CHECK.thrown("peek(" + address + ")", INDEX, () -> x.peek(address));
        }
        CHECK.same("peek(0) after wrong pokes", x.peek(0), 200);
        CHECK.same("peek(65535) after wrong pokes", x.peek(65535), 65535 * 7 + 200 & 0xff);
    }

    private static void plant() {
        RiscHart x = new RiscHart();
        x.plant(8, 0x84030201);
        for (int k = 0; k < 4; k++) {
            CHECK.same("planted byte " + k, x.peek(8 + k), k == 3 ? 0x84 : k + 1);
        }
        CHECK.same("the byte before", x.peek(7), 0);
        CHECK.same("the byte behind", x.peek(12), 0);
        x.plant(65532, -2);
        CHECK.same("the first of the last four", x.peek(65532), 254);
        CHECK.same("the last byte", x.peek(65535), 255);
        x.rights(0, 0);
        x.plant(16, 77);
        CHECK.same("a closed page is none to plant", x.peek(16), 77);
        int[] wrong = {-4, -1, 1, 2, 3, 5, 10, 65531, 65533, 65534, 65535, 65536, 65540, Integer.MIN_VALUE, 2147483644};
        for (int address : wrong) {
            CHECK.thrown("plant(" + address + ")", INDEX, () -> x.plant(address, -1));
        }
        CHECK.same("word 0 after wrong plants", Asm.word(x, 0), 0);
        CHECK.same("word 4 after wrong plants", Asm.word(x, 4), 0);
        CHECK.same("word 8 after wrong plants", Asm.word(x, 8), 0x84030201);
    }

    private static void rights() {
        RiscHart x = new RiscHart();
        for (int rights = 0; rights <= 7; rights++) {
            CHECK.same("rights(63, " + rights + ")", x.rights(63, rights), rights == 0 ? 7 : rights - 1);
        }
        CHECK.same("rights(0, 5)", x.rights(0, 5), 7);
        CHECK.same("rights(0, 2)", x.rights(0, 2), 5);
        for (int page : new int[] {-1, 64, Integer.MIN_VALUE, Integer.MAX_VALUE}) {
            CHECK.thrown("rights(" + page + ", 1)", ARGUMENT, () -> x.rights(page, 1));
        }
        for (int rights : new int[] {-1, 8, Integer.MIN_VALUE, Integer.MAX_VALUE}) {
            CHECK.thrown("rights(0, " + rights + ")", ARGUMENT, () -> x.rights(0, rights));
        }
        CHECK.same("rights(0, 7) after wrong ones", x.rights(0, 7), 2);
    }

    private static void registers() {
        RiscHart x = new RiscHart();
        CHECK.same("set(0, 5)", x.set(0, 5) ? 1 : 0, 0);
        for (int r = 1; r < 32; r++) {
            CHECK.same("set(" + r + ")", x.set(r, -1000 * r) ? 1 : 0, 1);
        }
        for (int r = 0; r < 32; r++) {
            CHECK.same("register(" + r + ")", x.register(r), -1000 * r);
        }
        x.set(31, Integer.MIN_VALUE);
        CHECK.same("register(31), the least", x.register(31), Integer.MIN_VALUE);
        for (int r : new int[] {-1, 32, 33, 64, Integer.MIN_VALUE, Integer.MAX_VALUE}) {
            CHECK.thrown("set(" + r + ")", INDEX, () -> x.set(r, 1));
            CHECK.thrown("register(" + r + ")", INDEX, () -> x.register(r));
        }
    }

    private static void jump() {
        RiscHart x = new RiscHart();
        for (int address : new int[] {4, 3, 65535, 65536, -1, -2, Integer.MIN_VALUE, Integer.MAX_VALUE}) {
            x.jump(address);
            CHECK.same("place behind jump(" + address + ")", x.count(0), address);
        }
        x.plant(512, Asm.addi(1, 0, 9));
        x.jump(512);
        CHECK.same("step() where it jumped to", x.step(), 0);
        CHECK.same("register(1)", x.register(1), 9);
        CHECK.same("place", x.count(0), 516);
    }

    private static void clock() {
        for (long time : new long[] {0, 1, 0x123456789abcdef0L, -1, Long.MIN_VALUE, 0xffffffffL}) {
            RiscHart x = new RiscHart();
            Asm.load(x, 0, Asm.counter(2, 1, 0, 0xc01), Asm.counter(2, 2, 0, 0xc81));
            x.clock(3);
            x.clock(time);
            CHECK.same("run(2)", x.run(2), 2);
            CHECK.same("lower half of " + time, x.register(1), (int) time);
            CHECK.same("upper half of " + time, x.register(2), (int) (time >> 32));
        }
    }

    private static void run() {
        RiscHart x = new RiscHart();
        Asm.load(x, 0, Asm.addi(1, 1, 1), Asm.j(0, -4));
        CHECK.same("run(0)", x.run(0), 0);
        CHECK.same("place behind run(0)", x.count(0), 0);
        CHECK.same("run(1)", x.run(1), 1);
        CHECK.same("place behind run(1)", x.count(0), 4);
        CHECK.same("run(2000)", x.run(2000), 2000);
        CHECK.same("register(1)", x.register(1), 1001);
        CHECK.same("retired", x.count(3), 2001);
        for (int n : new int[] {-1, 2001, Integer.MIN_VALUE, Integer.MAX_VALUE}) {
            CHECK.thrown("run(" + n + ")", ARGUMENT, () -> x.run(n));
        }
        CHECK.same("retired after wrong runs", x.count(3), 2001);
        Asm.load(x, 64, Asm.addi(2, 0, 1), Asm.addi(3, 0, 1), Asm.CALL, Asm.addi(4, 0, 1));
        CHECK.same("run(10) into a trap", x.run(10), 2);
        CHECK.same("the trap", x.count(1), 3);
        CHECK.same("place of the trap", x.count(0), 72);
        CHECK.same("run(10) on a trap", x.run(10), 0);
        x.jump(76);
        CHECK.same("run(1) behind it", x.run(1), 1);
        CHECK.same("the trap stays the latest", x.count(1), 3);
        CHECK.same("run(10) into a half of 0", x.run(10), 0);
        CHECK.same("its cause", x.count(1), 2);
    }

    private static void count() {
        RiscHart x = new RiscHart();
        for (int what : new int[] {-1, 5, 6, Integer.MIN_VALUE, Integer.MAX_VALUE}) {
            CHECK.thrown("count(" + what + ")", ARGUMENT, () -> x.count(what));
        }
        x.jump(-2);
        CHECK.same("step() at -2", x.step(), 1);
        CHECK.same("place, signed", x.count(0), -2);
        CHECK.same("value, signed", x.count(2), -2);
        CHECK.same("retired", x.count(3), 0);
        Asm.load(x, 0, Asm.atomic(Asm.LR, 1, 2, 0));
        x.set(2, 65532);
        CHECK.same("step() reserves", x.step(), 0);
        CHECK.same("reserved", x.count(4), 65532);
        CHECK.same("value of the latest trap stays", x.count(2), -2);
    }
}
