import java.util.Random;

/** Any calls with any arguments: what is thrown is what the document says, and answers stay in their ranges. */
public final class RoughTest {
    private static final Check CHECK = new Check();
    private static final int OBJECTS = 15000;
    /** A row of them may take five calls, and an object is used for 512 at most. */
    private static final int ROWS = 100;

    public static void main(String[] args) {
        for (int seed = 0; seed < OBJECTS; seed++) {
            useOne(new Random(seed));
        }
        CHECK.end();
    }

    private static void useOne(Random random) {
        RiscHart x = new RiscHart();
        for (int k = 0; k < ROWS; k++) {
            try {
                call(x, random);
            } catch (IndexOutOfBoundsException | IllegalArgumentException e) {
                CHECK.fault("threw " + e);
            }
        }
    }

    /** Numbers of all sizes, the edges of the ranges among them. */
    private static int number(Random random) {
        int[] edges = {0, 1, 7, 8, 31, 32, 63, 64, 2000, 2001, 65532, 65533, 65535, 65536, Integer.MAX_VALUE};
        switch (random.nextInt(6)) {
            case 0: return random.nextInt();
            case 1: return random.nextInt(65536);
            case 2: return random.nextInt(64);
            case 3: return edges[random.nextInt(edges.length)];
            case 4: return ~edges[random.nextInt(edges.length)];
            default: return random.nextInt(1024) & ~3;
        }
    }

    private static void call(RiscHart x, Random random) {
        int a = number(random);
        int b = number(random);
        switch (random.nextInt(12)) {
            case 0: expect(a >= 0 && a <= 65535, true, () -> x.poke(a, b)); break;
            case 1: case 2: expect(a >= 0 && a <= 65532 && a % 4 == 0, true, () -> x.plant(a, random.nextInt())); break;
            case 3: expect(a >= 0 && a <= 65535, true, () -> within(x.peek(a), 0, 255)); break;
            case 4: rights(x, random, a, b); break;
            case 5: expect(a >= 0 && a <= 31, true, () -> setAndAsk(x, a, b)); break;
            case 6: expect(a >= 0 && a <= 31, true, () -> x.register(a)); break;
            case 7: x.jump(random.nextBoolean() ? a : random.nextInt(512) * 2); break;
            case 8: x.clock(random.nextLong()); break;
            case 9: stepOnce(x); break;
            case 10: expect(a >= 0 && a <= 2000, false, () -> within(x.run(a), 0, a)); break;
            default: expect(a >= 0 && a <= 4, false, () -> x.count(a)); break;
        }
    }

    private static void rights(RiscHart x, Random random, int page, int rights) {
        int mostly = random.nextInt(4) == 0 ? rights : random.nextInt(8);
        expect(page >= 0 && page <= 63 && mostly >= 0 && mostly <= 7, false, () -> within(x.rights(page, mostly), 0, 7));
    }

    private static void setAndAsk(RiscHart x, int r, int v) {
        CHECK.same("set", x.set(r, v) ? 1 : 0, r == 0 ? 0 : 1);
        CHECK.same("register", x.register(r), r == 0 ? 0 : v);
        CHECK.same("x0", x.register(0), 0);
    }

    private static void stepOnce(RiscHart x) {
        long retired = x.count(3);
        long place = x.count(0);
        int cause = x.step();
        within(cause, 0, 7);
        CHECK.same("retired", x.count(3), cause == 0 ? retired + 1 : retired);
        if (cause != 0) {
            CHECK.same("cause", x.count(1), cause);
            CHECK.same("place of a trap", x.count(0), place);
        }
    }

    /** Not for the whole range of int: OpenJDK 17's C2 now and then takes an answer to be outside that. */
    private static void within(int answer, int least, int most) {
        if (answer < least || answer > most) {
            CHECK.fault("answered " + answer + ", not in " + least + " .. " + most);
        }
    }

    private static void expect(boolean right, boolean index, Runnable call) {
        if (right) {
            call.run();
        } else {
            CHECK.thrown("a wrong argument", index ? IndexOutOfBoundsException.class : IllegalArgumentException.class, call);
        }
    }
}
