/**
 * A hart of a reduced instruction set: 32 registers of 32 bits and 64 KB of bytes in pages that may be closed.
 *
 * Only the constructor makes objects: a run of calls may take a million steps, so no step may make one.
 * For the same reason a trap is a number that the methods hand back (DONE where there is none), not an exception.
 */
public final class RiscHart {
    private static final int REGISTERS = 32;
    private static final int MOST_STEPS = 2000;

    private static final int DONE = 0;
    private static final int FETCH = 1;
    private static final int ILLEGAL = 2;
    private static final int CALL = 3;
    private static final int BREAK = 4;
    private static final int MISALIGNED = 5;
    private static final int LOAD = 6;
    private static final int STORE = 7;

    private static final int LINK_REGISTER = 1;
    private static final int STACK_REGISTER = 2;

    private static final int LOAD_RESERVED = 2;
    private static final int STORE_CONDITIONAL = 3;

    private final Memory memory;
    private final int[] registers;
    private int place;
    private int placeBehind;
    private int cause;
    private int value;
    private long retired;
    private long time;

    public RiscHart() {
        memory = new Memory();
        registers = new int[REGISTERS];
    }

    public void poke(int address, int v) throws IndexOutOfBoundsException {
        if (!Memory.holds(address)) {
            throw new IndexOutOfBoundsException("no such byte");
        }
        memory.write(Memory.BYTE, address, v);
    }

    public void plant(int address, int word) throws IndexOutOfBoundsException {
        if (!Memory.holds(address) || Memory.isMisaligned(Memory.WORD, address)) {
            throw new IndexOutOfBoundsException("no such word");
        }
        memory.write(Memory.WORD, address, word);
    }

    public int peek(int address) throws IndexOutOfBoundsException {
        if (!Memory.holds(address)) {
            throw new IndexOutOfBoundsException("no such byte");
        }
        return memory.read(Memory.UNSIGNED_BYTE, address);
    }

    public int rights(int page, int rights) throws IllegalArgumentException {
        if (page < 0 || page >= Memory.PAGES) {
            throw new IllegalArgumentException("no such page");
        }
        if (rights < 0 || rights > Memory.ALL_RIGHTS) {
            throw new IllegalArgumentException("no such rights");
        }
        return memory.exchangeRights(page, rights);
    }

    public boolean set(int r, int v) throws IndexOutOfBoundsException {
        if (r < 0 || r >= REGISTERS) {
            throw new IndexOutOfBoundsException("no such register");
        }
        give(r, v);
        return r != 0;
    }

    public int register(int r) throws IndexOutOfBoundsException {
        if (r < 0 || r >= REGISTERS) {
            throw new IndexOutOfBoundsException("no such register");
        }
        return registers[r];
    }

    public void jump(int address) {
        place = address;
    }

    public void clock(long time) {
        this.time = time;
    }

    public int step() {
        return carryOutNext();
    }

    public int run(int n) throws IllegalArgumentException {
        if (n < 0 || n > MOST_STEPS) {
            throw new IllegalArgumentException("no such number of steps");
        }
        for (int done = 0; done < n; done++) {
            if (carryOutNext() != DONE) {
                return done;
            }
        }
        return n;
    }

    public long count(int what) throws IllegalArgumentException {
        switch (what) {
            case 0: return place;
            case 1: return cause;
            case 2: return value;
            case 3: return retired;
            case 4: return memory.reservedAddress();
            default: throw new IllegalArgumentException("no such count");
        }
    }

    private int carryOutNext() {
        if (!memory.mayCarryOut(place)) {
            return trap(FETCH, place);
        }
        int half = memory.read(Memory.UNSIGNED_HALF, place);
        boolean isLong = (half & 3) == 3;
        if (isLong && !memory.mayCarryOut(place + 2)) {
            return trap(FETCH, place);
        }
        placeBehind = place + (isLong ? 4 : 2);
        int cameTo = isLong ? carryOutLong(longFrom(half)) : carryOutShort(half);
        if (cameTo == DONE) {
            retired++;
            place = placeBehind;
        }
        return cameTo;
    }

    private int longFrom(int lowerHalf) {
        return memory.read(Memory.UNSIGNED_HALF, place + 2) << 16 | lowerHalf;
    }

    private int trap(int why, int about) {
        cause = why;
        value = about;
        return why;
    }

    private int give(int d, int v) {
        if (d != 0) {
            registers[d] = v;
        }
        return DONE;
    }

    /** The target is worked out by the caller, so that a link into the register that it comes from does no harm. */
    private int linkAndJump(int d, int target) {
        int link = placeBehind;
        placeBehind = target & ~1;
        return give(d, link);
    }

    private int jumpIf(boolean holds, int target) {
        return holds ? linkAndJump(0, target) : DONE;
    }

    private int load(int f, int d, int address) {
        if (Memory.isMisaligned(f, address)) {
            return trap(MISALIGNED, address);
        }
        if (!memory.allows(Memory.MAY_READ, address)) {
            return trap(LOAD, address);
        }
        return give(d, memory.read(f, address));
    }

    private int store(int f, int address, int v) {
        if (Memory.isMisaligned(f, address)) {
            return trap(MISALIGNED, address);
        }
        if (!memory.allows(Memory.MAY_WRITE, address)) {
            return trap(STORE, address);
        }
        memory.write(f, address, v);
        return DONE;
    }

    private int carryOutLong(int word) {
        int d = LongForm.d(word);
        switch (word & 0x7f) {
            case 0x37: return give(d, LongForm.upperNumber(word));
            case 0x17: return give(d, place + LongForm.upperNumber(word));
            case 0x6f: return linkAndJump(d, place + LongForm.offsetJ(word));
            case 0x67: return longJumpToRegister(word);
            case 0x63: return longBranch(word);
            case 0x03: return longLoad(word);
            case 0x23: return longStore(word);
            case 0x13: return longWithNumber(word);
            case 0x33: return longWithRegisters(word);
            case 0x2f: return longAtomic(word);
            case 0x0f: return LongForm.f(word) <= 1 ? DONE : trap(ILLEGAL, word);
            case 0x73: return longSystem(word);
            default: return trap(ILLEGAL, word);
        }
    }

    private int longJumpToRegister(int word) {
        if (LongForm.f(word) != 0) {
            return trap(ILLEGAL, word);
        }
        return linkAndJump(LongForm.d(word), registers[LongForm.a(word)] + LongForm.numberI(word));
    }

    private int longBranch(int word) {
        int a = registers[LongForm.a(word)];
        int b = registers[LongForm.b(word)];
        int target = place + LongForm.offsetT(word);
        switch (LongForm.f(word)) {
            case 0: return jumpIf(a == b, target);
            case 1: return jumpIf(a != b, target);
            case 4: return jumpIf(a < b, target);
            case 5: return jumpIf(a >= b, target);
            case 6: return jumpIf(Arithmetic.isBelow(a, b), target);
            case 7: return jumpIf(!Arithmetic.isBelow(a, b), target);
            default: return trap(ILLEGAL, word);
        }
    }

    private int longLoad(int word) {
        int f = LongForm.f(word);
        if (f == 3 || f > Memory.UNSIGNED_HALF) {
            return trap(ILLEGAL, word);
        }
        return load(f, LongForm.d(word), registers[LongForm.a(word)] + LongForm.numberI(word));
    }

    private int longStore(int word) {
        int f = LongForm.f(word);
        if (f > Memory.WORD) {
            return trap(ILLEGAL, word);
        }
        int address = registers[LongForm.a(word)] + LongForm.numberS(word);
        return store(f, address, registers[LongForm.b(word)]);
    }

    private int longWithNumber(int word) {
        int d = LongForm.d(word);
        int f = LongForm.f(word);
        int g = LongForm.g(word);
        int a = registers[LongForm.a(word)];
        if (f == 5 && g == 32) {
            return give(d, a >> LongForm.b(word));
        }
        if ((f == 1 || f == 5) && g != 0) {
            return trap(ILLEGAL, word);
        }
        return give(d, Arithmetic.plain(f, a, LongForm.numberI(word)));
    }

    private int longWithRegisters(int word) {
        int d = LongForm.d(word);
        int f = LongForm.f(word);
        int a = registers[LongForm.a(word)];
        int b = registers[LongForm.b(word)];
        switch (LongForm.g(word)) {
            case 0: return give(d, Arithmetic.plain(f, a, b));
            case 1: return give(d, Arithmetic.multipliedOrDivided(f, a, b));
            case 32:
                if (f == 0) {
                    return give(d, a - b);
                }
                return f == 5 ? give(d, a >> (b & 31)) : trap(ILLEGAL, word);
            default: return trap(ILLEGAL, word);
        }
    }

    private int longAtomic(int word) {
        if (!LongForm.isAtomic(word)) {
            return trap(ILLEGAL, word);
        }
        int k = LongForm.k(word);
        int address = registers[LongForm.a(word)];
        if (Memory.isMisaligned(Memory.WORD, address)) {
            return trap(MISALIGNED, address);
        }
        if (k != LOAD_RESERVED && !memory.allows(Memory.MAY_WRITE, address)) {
            return trap(STORE, address);
        }
        if (!memory.allows(Memory.MAY_READ, address)) {
            return trap(LOAD, address);
        }
        int d = LongForm.d(word);
        int b = registers[LongForm.b(word)];
        switch (k) {
            case LOAD_RESERVED: return loadReserved(d, address);
            case STORE_CONDITIONAL: return storeConditional(d, address, b);
            default: return change(k, d, address, b);
        }
    }

    private int loadReserved(int d, int address) {
        memory.reserve(address);
        return give(d, memory.read(Memory.WORD, address));
    }

    private int storeConditional(int d, int address, int b) {
        boolean isReserved = memory.reservedAddress() == address;
        if (isReserved) {
            memory.write(Memory.WORD, address, b);
        }
        memory.reserve(Memory.NOTHING);
        return give(d, isReserved ? 0 : 1);
    }

    private int change(int k, int d, int address, int b) {
        int word = memory.read(Memory.WORD, address);
        memory.write(Memory.WORD, address, Arithmetic.changed(k, word, b));
        return give(d, word);
    }

    private int longSystem(int word) {
        if (word == 0x00000073) {
            return trap(CALL, 0);
        }
        if (word == 0x00100073) {
            return trap(BREAK, 0);
        }
        boolean readsOnly = (LongForm.f(word) & 2) != 0 && LongForm.a(word) == 0;
        return readsOnly ? readCounter(word) : trap(ILLEGAL, word);
    }

    private int readCounter(int word) {
        int d = LongForm.d(word);
        switch (word >>> 20) {
            case 0xc00:
            case 0xc02: return give(d, (int) retired);
            case 0xc80:
            case 0xc82: return give(d, (int) (retired >>> 32));
            case 0xc01: return give(d, (int) time);
            case 0xc81: return give(d, (int) (time >>> 32));
            default: return trap(ILLEGAL, word);
        }
    }

    private int carryOutShort(int half) {
        switch (half & 3) {
            case 0: return shortOfQ0(half);
            case 1: return shortOfQ1(half);
            default: return shortOfQ2(half);
        }
    }

    private int shortOfQ0(int half) {
        int low = ShortForm.lowNear(half);
        int address = registers[ShortForm.highNear(half)] + ShortForm.nearOffset(half);
        switch (ShortForm.f(half)) {
            case 0:
                int number = ShortForm.stackNumber(half);
                return number == 0 ? trap(ILLEGAL, half) : give(low, registers[STACK_REGISTER] + number);
            case 2: return load(Memory.WORD, low, address);
            case 6: return store(Memory.WORD, address, registers[low]);
            default: return trap(ILLEGAL, half);
        }
    }

    private int shortOfQ1(int half) {
        int d = ShortForm.d(half);
        int number = ShortForm.number(half);
        switch (ShortForm.f(half)) {
            case 0: return give(d, registers[d] + number);
            case 1: return linkAndJump(LINK_REGISTER, place + ShortForm.offsetJ(half));
            case 2: return give(d, number);
            case 3: return d == STACK_REGISTER ? shortMoveStack(half) : shortUpperNumber(half);
            case 4: return shortArithmetic(half);
            case 5: return linkAndJump(0, place + ShortForm.offsetJ(half));
            case 6: return jumpIf(registers[ShortForm.highNear(half)] == 0, place + ShortForm.offsetT(half));
            default: return jumpIf(registers[ShortForm.highNear(half)] != 0, place + ShortForm.offsetT(half));
        }
    }

    private int shortMoveStack(int half) {
        int move = ShortForm.stackMove(half);
        return move == 0 ? trap(ILLEGAL, half) : give(STACK_REGISTER, registers[STACK_REGISTER] + move);
    }

    private int shortUpperNumber(int half) {
        int number = ShortForm.number(half);
        return number == 0 ? trap(ILLEGAL, half) : give(ShortForm.d(half), number << 12);
    }

    private int shortArithmetic(int half) {
        int high = ShortForm.highNear(half);
        int a = registers[high];
        int kind = Bits.part(half, 10, 2);
        if (kind == 2) {
            return give(high, a & ShortForm.number(half));
        }
        if (ShortForm.bit12(half)) {
            return trap(ILLEGAL, half);
        }
        int s = registers[ShortForm.lowNear(half)];
        switch (kind) {
            case 0: return give(high, a >>> ShortForm.b(half));
            case 1: return give(high, a >> ShortForm.b(half));
            default: return give(high, Arithmetic.ofTwoNear(Bits.part(half, 5, 2), a, s));
        }
    }

    private int shortOfQ2(int half) {
        int d = ShortForm.d(half);
        int stack = registers[STACK_REGISTER];
        switch (ShortForm.f(half)) {
            case 0:
                return ShortForm.bit12(half) ? trap(ILLEGAL, half) : give(d, registers[d] << ShortForm.b(half));
            case 2:
                return d == 0 ? trap(ILLEGAL, half) : load(Memory.WORD, d, stack + ShortForm.stackLoadOffset(half));
            case 4:
                return ShortForm.b(half) == 0 ? shortJumpToRegister(half) : shortMoveOrAdd(half);
            case 6:
                return store(Memory.WORD, stack + ShortForm.stackStoreOffset(half), registers[ShortForm.b(half)]);
            default:
                return trap(ILLEGAL, half);
        }
    }

    private int shortJumpToRegister(int half) {
        int d = ShortForm.d(half);
        boolean links = ShortForm.bit12(half);
        if (d == 0) {
            return links ? trap(BREAK, 0) : trap(ILLEGAL, half);
        }
        return linkAndJump(links ? LINK_REGISTER : 0, registers[d]);
    }

    private int shortMoveOrAdd(int half) {
        int d = ShortForm.d(half);
        int b = registers[ShortForm.b(half)];
        return give(d, ShortForm.bit12(half) ? registers[d] + b : b);
    }

    /**
     * The bytes, the rights of their pages, and the reservation, which lies here because every write may end it.
     * The widths are the F of the loads. Nothing aligned crosses a word, so that four bytes share one element,
     * which keeps an object small, and the page of its first byte speaks for all of it.
     */
    private static final class Memory {
        static final int BYTE = 0;
        static final int HALF = 1;
        static final int WORD = 2;
        static final int UNSIGNED_BYTE = 4;
        static final int UNSIGNED_HALF = 5;

        static final int MAY_READ = 1;
        static final int MAY_WRITE = 2;
        static final int MAY_CARRY_OUT = 4;
        static final int ALL_RIGHTS = 7;

        static final int PAGES = 64;
        static final int LAST_BYTE = 65535;
        static final int WORDS = 16384;
        static final int NOTHING = -1;

        private final int[] words;
        private final int[] pageRights;
        private int reserved;

        Memory() {
            words = new int[WORDS];
            pageRights = new int[PAGES];
            for (int page = 0; page < PAGES; page++) {
                pageRights[page] = ALL_RIGHTS;
            }
            reserved = NOTHING;
        }

        /** Unsigned addresses beyond the half of their range are negative here, and are not there either. */
        static boolean holds(int address) {
            return address >= 0 && address <= LAST_BYTE;
        }

        static boolean isMisaligned(int width, int address) {
            return (address & ((1 << (width & 3)) - 1)) != 0;
        }

        boolean allows(int right, int address) {
            return holds(address) && (pageRights[address >>> 10] & right) != 0;
        }

        boolean mayCarryOut(int address) {
            return !isMisaligned(HALF, address) && allows(MAY_CARRY_OUT, address);
        }

        int exchangeRights(int page, int rights) {
            int before = pageRights[page];
            pageRights[page] = rights;
            return before;
        }

        int reservedAddress() {
            return reserved;
        }

        void reserve(int address) {
            reserved = address;
        }

        int read(int width, int address) {
            int word = words[wordIndex(address)];
            int part = word >>> shiftOf(address);
            switch (width) {
                case BYTE: return (byte) part;
                case HALF: return (short) part;
                case UNSIGNED_BYTE: return part & 0xff;
                case UNSIGNED_HALF: return part & 0xffff;
                default: return word;
            }
        }

        void write(int width, int address, int v) {
            int index = wordIndex(address);
            int mask = maskOf(width) << shiftOf(address);
            words[index] = (words[index] & ~mask) | ((v << shiftOf(address)) & mask);
            if (reserved == (address & ~3)) {
                reserved = NOTHING;
            }
        }

        /** The mask costs nothing where the caller has asked holds(), and keeps every index inside. */
        private static int wordIndex(int address) {
            return (address & LAST_BYTE) >>> 2;
        }

        private static int shiftOf(int address) {
            return (address & 3) << 3;
        }

        private static int maskOf(int width) {
            switch (width) {
                case BYTE: return 0xff;
                case HALF: return 0xffff;
                default: return -1;
            }
        }
    }

    private static final class Bits {
        static int part(int bits, int lowest, int many) {
            return (bits >>> lowest) & ((1 << many) - 1);
        }

        static int signed(int number, int many) {
            return number << (32 - many) >> (32 - many);
        }
    }

    /** The parts of a long instruction. */
    private static final class LongForm {
        static int d(int word) {
            return Bits.part(word, 7, 5);
        }

        static int f(int word) {
            return Bits.part(word, 12, 3);
        }

        static int a(int word) {
            return Bits.part(word, 15, 5);
        }

        static int b(int word) {
            return Bits.part(word, 20, 5);
        }

        static int g(int word) {
            return Bits.part(word, 25, 7);
        }

        static int k(int word) {
            return Bits.part(word, 27, 5);
        }

        static int numberI(int word) {
            return word >> 20;
        }

        static int numberS(int word) {
            return Bits.signed(g(word) << 5 | d(word), 12);
        }

        static int upperNumber(int word) {
            return word & ~0xfff;
        }

        static int offsetJ(int word) {
            int offset = Bits.part(word, 31, 1) << 20 | Bits.part(word, 12, 8) << 12
                | Bits.part(word, 20, 1) << 11 | Bits.part(word, 21, 10) << 1;
            return Bits.signed(offset, 21);
        }

        static int offsetT(int word) {
            int offset = Bits.part(word, 31, 1) << 12 | Bits.part(word, 7, 1) << 11
                | Bits.part(word, 25, 6) << 5 | Bits.part(word, 8, 4) << 1;
            return Bits.signed(offset, 13);
        }

        static boolean isAtomic(int word) {
            if (f(word) != 2) {
                return false;
            }
            switch (k(word)) {
                case LOAD_RESERVED: return b(word) == 0;
                case STORE_CONDITIONAL:
                case 0:
                case 1:
                case 4:
                case 8:
                case 12:
                case 16:
                case 20:
                case 24:
                case 28: return true;
                default: return false;
            }
        }
    }

    /** The parts of a short instruction; the near registers are x8 .. x15, named by three bits. */
    private static final class ShortForm {
        static int f(int half) {
            return Bits.part(half, 13, 3);
        }

        static boolean bit12(int half) {
            return Bits.part(half, 12, 1) != 0;
        }

        static int d(int half) {
            return Bits.part(half, 7, 5);
        }

        static int b(int half) {
            return Bits.part(half, 2, 5);
        }

        static int lowNear(int half) {
            return 8 + Bits.part(half, 2, 3);
        }

        static int highNear(int half) {
            return 8 + Bits.part(half, 7, 3);
        }

        static int number(int half) {
            return Bits.signed(Bits.part(half, 12, 1) << 5 | Bits.part(half, 2, 5), 6);
        }

        /** U[5:4|9:6|2|3] of the bits 5 .. 12. */
        static int stackNumber(int half) {
            return Bits.part(half, 11, 2) << 4 | Bits.part(half, 7, 4) << 6
                | Bits.part(half, 6, 1) << 2 | Bits.part(half, 5, 1) << 3;
        }

        /** U[5:3] of the bits 10 .. 12, U[2] of bit 6, U[6] of bit 5. */
        static int nearOffset(int half) {
            return Bits.part(half, 10, 3) << 3 | Bits.part(half, 6, 1) << 2 | Bits.part(half, 5, 1) << 6;
        }

        /** J[11|4|9:8|10|6|7|3:1|5] of the bits 2 .. 12. */
        static int offsetJ(int half) {
            int offset = Bits.part(half, 12, 1) << 11 | Bits.part(half, 11, 1) << 4
                | Bits.part(half, 9, 2) << 8 | Bits.part(half, 8, 1) << 10
                | Bits.part(half, 7, 1) << 6 | Bits.part(half, 6, 1) << 7
                | Bits.part(half, 3, 3) << 1 | Bits.part(half, 2, 1) << 5;
            return Bits.signed(offset, 12);
        }

        /** [9] of bit 12 and [4|6|8:7|5] of the bits 2 .. 6. */
        static int stackMove(int half) {
            int move = Bits.part(half, 12, 1) << 9 | Bits.part(half, 6, 1) << 4
                | Bits.part(half, 5, 1) << 6 | Bits.part(half, 3, 2) << 7 | Bits.part(half, 2, 1) << 5;
            return Bits.signed(move, 10);
        }

        /** T[8|4:3] of the bits 10 .. 12, T[7:6|2:1|5] of the bits 2 .. 6. */
        static int offsetT(int half) {
            int offset = Bits.part(half, 12, 1) << 8 | Bits.part(half, 10, 2) << 3
                | Bits.part(half, 5, 2) << 6 | Bits.part(half, 3, 2) << 1 | Bits.part(half, 2, 1) << 5;
            return Bits.signed(offset, 9);
        }

        /** U[5] of bit 12, U[4:2|7:6] of the bits 2 .. 6. */
        static int stackLoadOffset(int half) {
            return Bits.part(half, 12, 1) << 5 | Bits.part(half, 4, 3) << 2 | Bits.part(half, 2, 2) << 6;
        }

        /** U[5:2|7:6] of the bits 7 .. 12. */
        static int stackStoreOffset(int half) {
            return Bits.part(half, 9, 4) << 2 | Bits.part(half, 7, 2) << 6;
        }
    }

    private static final class Arithmetic {
        static final long LOWER_HALF = 0xffffffffL;

        static boolean isBelow(int a, int b) {
            return (a & LOWER_HALF) < (b & LOWER_HALF);
        }

        static int plain(int f, int a, int b) {
            switch (f) {
                case 0: return a + b;
                case 1: return a << (b & 31);
                case 2: return a < b ? 1 : 0;
                case 3: return isBelow(a, b) ? 1 : 0;
                case 4: return a ^ b;
                case 5: return a >>> (b & 31);
                case 6: return a | b;
                default: return a & b;
            }
        }

        static int multipliedOrDivided(int f, int a, int b) {
            switch (f) {
                case 0: return a * b;
                case 1: return (int) (((long) a * (long) b) >>> 32);
                case 2: return (int) (((long) a * (b & LOWER_HALF)) >>> 32);
                case 3: return (int) (((a & LOWER_HALF) * (b & LOWER_HALF)) >>> 32);
                case 4: return (int) quotient(a, b);
                case 5: return (int) quotient(a & LOWER_HALF, b & LOWER_HALF);
                case 6: return (int) remainder(a, b);
                default: return (int) remainder(a & LOWER_HALF, b & LOWER_HALF);
            }
        }

        /** Over longs the least number by -1 needs no case of its own: its quotient goes round when it is cut. */
        private static long quotient(long a, long b) {
            return b == 0 ? -1 : a / b;
        }

        private static long remainder(long a, long b) {
            return b == 0 ? a : a % b;
        }

        static int ofTwoNear(int kind, int a, int s) {
            switch (kind) {
                case 0: return a - s;
                case 1: return a ^ s;
                case 2: return a | s;
                default: return a & s;
            }
        }

        static int changed(int k, int word, int b) {
            switch (k) {
                case 0: return word + b;
                case 1: return b;
                case 4: return word ^ b;
                case 8: return word | b;
                case 12: return word & b;
                case 16: return word < b ? word : b;
                case 20: return word < b ? b : word;
                case 24: return isBelow(word, b) ? word : b;
                default: return isBelow(word, b) ? b : word;
            }
        }
    }
}
