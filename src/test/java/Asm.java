/** Long instructions from their parts. */
final class Asm {
    static final int CALL = 0x00000073;
    static final int BREAK = 0x00100073;
    static final int LR = 2;
    static final int SC = 3;

    private Asm() {
    }

    static int i(int opcode, int f, int d, int a, int number) {
        return opcode | d << 7 | f << 12 | a << 15 | number << 20;
    }

    static int r(int g, int f, int d, int a, int b) {
        return 0x33 | d << 7 | f << 12 | a << 15 | b << 20 | g << 25;
    }

    static int s(int f, int a, int b, int number) {
        return 0x23 | (number & 31) << 7 | f << 12 | a << 15 | b << 20 | (number >> 5) << 25;
    }

    static int u(int opcode, int d, int upper) {
        return opcode | d << 7 | upper << 12;
    }

    static int t(int f, int a, int b, int offset) {
        int upper = (offset >> 12 & 1) << 6 | (offset >> 5 & 63);
        int lower = (offset >> 1 & 15) << 1 | (offset >> 11 & 1);
        return 0x63 | lower << 7 | f << 12 | a << 15 | b << 20 | upper << 25;
    }

    static int j(int d, int offset) {
        int bits = (offset >> 20 & 1) << 19 | (offset >> 1 & 0x3ff) << 9 | (offset >> 11 & 1) << 8 | (offset >> 12 & 0xff);
        return 0x6f | d << 7 | bits << 12;
    }

    static int atomic(int k, int d, int a, int b) {
        return 0x2f | d << 7 | 2 << 12 | a << 15 | b << 20 | k << 27;
    }

    static int counter(int f, int d, int a, int which) {
        return 0x73 | d << 7 | f << 12 | a << 15 | which << 20;
    }

    static int addi(int d, int a, int number) {
        return i(0x13, 0, d, a, number);
    }

    static int lw(int d, int a, int number) {
        return i(0x03, 2, d, a, number);
    }

    static int sw(int b, int a, int number) {
        return s(2, a, b, number);
    }

    /** Plants these words one behind the other and sets the place to the first. */
    static void load(RiscHart x, int address, int... words) {
        for (int k = 0; k < words.length; k++) {
            x.plant(address + 4 * k, words[k]);
        }
        x.jump(address);
    }

    static int word(RiscHart x, int address) {
        return x.peek(address) | x.peek(address + 1) << 8 | x.peek(address + 2) << 16 | x.peek(address + 3) << 24;
    }
}
