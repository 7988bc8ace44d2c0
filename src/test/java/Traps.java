import java.util.Arrays;

/** Asks of a step that it traps: the cause, the value, and that nothing else changes. */
final class Traps {
    static final int FETCH = 1;
    static final int ILLEGAL = 2;
    static final int CALL = 3;
    static final int BREAK = 4;
    static final int MISALIGNED = 5;
    static final int LOAD = 6;
    static final int STORE = 7;

    private Traps() {
    }

    /** All that count() and register() tell but cause and value, and as many bytes from an address on. */
    static long[] state(RiscHart x, int from, int many) {
        long[] state = new long[35 + many];
        for (int r = 0; r < 32; r++) {
            state[r] = x.register(r);
        }
        state[32] = x.count(0);
        state[33] = x.count(3);
        state[34] = x.count(4);
        for (int k = 0; k < many; k++) {
            state[35 + k] = x.peek(from + k);
        }
        return state;
    }

    static void ask(Check check, String what, RiscHart x, int cause, int value) {
        ask(check, what, x, cause, value, 0x3000);
    }

    /** Sixteen bytes from an address on are watched. */
    static void ask(Check check, String what, RiscHart x, int cause, int value, int from) {
        long[] before = state(x, from, 16);
        check.same("step() of " + what, x.step(), cause);
        check.same("cause of " + what, x.count(1), cause);
        check.same("value of " + what, x.count(2), value);
        if (!Arrays.equals(before, state(x, from, 16))) {
            check.fault(what + " changed more than cause and value");
        }
    }
}
