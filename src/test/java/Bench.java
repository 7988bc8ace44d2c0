/** A hart with one instruction at PLACE; A is x5, B is x6 and D is x7 where a test does not say otherwise. */
final class Bench {
    static final int PLACE = 0x100;
    static final int A = 5;
    static final int B = 6;
    static final int D = 7;

    private Bench() {
    }

    static RiscHart hart(int word, int a, int b) {
        RiscHart x = new RiscHart();
        x.set(A, a);
        x.set(B, b);
        Asm.load(x, PLACE, word);
        return x;
    }

    /** A hart with that word at an address, which is in A, and b in B; no instruction yet. */
    static RiscHart withWord(int address, int word, int b) {
        RiscHart x = new RiscHart();
        x.set(A, address);
        x.set(B, b);
        x.plant(address, word);
        return x;
    }

    /** What register D has behind the instruction. */
    static int result(Check check, int word, int a, int b) {
        RiscHart x = hart(word, a, b);
        check.same("step() of " + Integer.toHexString(word), x.step(), 0);
        return x.register(D);
    }

    /** The word is no instruction: a long one, or a half with ones behind it, which the value leaves out. */
    static void illegal(Check check, int bits) {
        boolean isLong = (bits & 3) == 3;
        RiscHart x = hart(isLong ? bits : bits | 0xffff0000, 0x3000, 0x3000);
        Traps.ask(check, "bits " + Integer.toHexString(bits), x, Traps.ILLEGAL, bits);
    }

    static void legal(Check check, int bits) {
        RiscHart x = hart(bits, 0x3000, 0x3000);
        check.same("step() of bits " + Integer.toHexString(bits), x.step(), 0);
    }
}
