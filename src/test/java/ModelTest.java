import java.util.Random;

/** Runs of mixed calls and instructions, each beside the Model: every answer, and the whole state at the end. */
public final class ModelTest {
    private static final Check CHECK = new Check();
    private static final int OBJECTS = 1500;
    private static final int CODE_WORDS = 96;
    /** What the end of a run asks must find room below 512. */
    private static final int MOST_CALLS = 360;
    private static final int WRITTEN_ASKED = 80;
    private static final int[] EDGES = {0, 1, -1, 2, -4, Integer.MIN_VALUE, Integer.MAX_VALUE, 0x3fc, 0x400, 65532, 65535, 65536};

    private final RiscHart hart = new RiscHart();
    private final Model model = new Model();
    private final Random random;
    private final String name;
    private int calls;

    private ModelTest(int seed) {
        random = new Random(seed);
        name = "run " + seed + ": ";
    }

    public static void main(String[] args) {
        for (int seed = 0; seed < OBJECTS; seed++) {
            new ModelTest(seed).live();
        }
        CHECK.end();
    }

    private void live() {
        plantCode();
        for (int r = 0; r < 32; r++) {
            set(r, number());
        }
        while (calls < MOST_CALLS) {
            call();
        }
        askAll();
    }

    private void due(String what, long got, long due) {
        calls++;
        CHECK.same(name + what, got, due);
    }

    /** Halves one behind the other, so that long ones stand at both kinds of even places. */
    private void plantCode() {
        long halves = 0;
        int many = 0;
        for (int address = 0; address < 4 * CODE_WORDS; address += 4) {
            while (many < 2) {
                boolean isLong = random.nextBoolean();
                halves |= (instruction(isLong) & (isLong ? 0xffffffffL : 0xffffL)) << 16 * many;
                many += isLong ? 2 : 1;
            }
            plant(address, (int) halves);
            halves >>>= 32;
            many -= 2;
        }
    }

    private int instruction(boolean isLong) {
        String[][] rows = isLong ? Model.LONG : Model.SHORT;
        String pattern = rows[random.nextInt(rows.length)][1].replace(" ", "");
        int bits = 0;
        int fill = randomFill();
        for (int k = 0; k < pattern.length(); k++) {
            char c = pattern.charAt(k);
            int bit = c == '0' ? 0 : c == '1' ? 1 : fill >>> (31 - k) & 1;
            bits = bits << 1 | bit;
        }
        return random.nextInt(24) == 0 ? bits ^ 1 << random.nextInt(pattern.length()) : bits;
    }

    /** Few ones make offsets small, so that jumps stay in the code, and let registers meet again. */
    private int randomFill() {
        int fill = random.nextInt();
        return random.nextInt(3) == 0 ? fill : fill & random.nextInt() & random.nextInt();
    }

    private int number() {
        switch (random.nextInt(4)) {
            case 0: return EDGES[random.nextInt(EDGES.length)];
            case 1: return random.nextInt();
            default: return near();
        }
    }

    /** A word of the code, or of the few that lie behind it and at the end of the bytes. */
    private int near() {
        int at = random.nextInt(CODE_WORDS + 32) * 4;
        return random.nextInt(4) == 0 ? 65536 - 64 + at % 128 : at;
    }

    private void plant(int address, int word) {
        calls++;
        hart.plant(address, word);
        model.write(address, 4, word);
    }

    private void set(int r, int v) {
        due("set(" + r + ", " + v + ")", hart.set(r, v) ? 1 : 0, r == 0 ? 0 : 1);
        if (r != 0) {
            model.registers[r] = v;
        }
    }

    private void call() {
        switch (random.nextInt(32)) {
            case 0: setRights(random.nextInt(4) == 0 ? 63 : 0); break;
            case 1: plant(near() & 0xfffc, instruction(true)); break;
            case 2: poke(near() + random.nextInt(4) & 0xffff, random.nextInt()); break;
            case 3: case 4: case 5: case 6: set(random.nextInt(32), number()); break;
            case 7: setClock(random.nextLong()); break;
            case 8: case 9: case 10: jumpSomewhere(); break;
            case 11: case 12: run(random.nextInt(40)); break;
            case 13: case 14: askOne(); break;
            case 15: reserveAndGoOn(); break;
            default: step(); break;
        }
    }

    private void setRights(int page) {
        int rights = random.nextInt(3) == 0 ? random.nextInt(8) : 7;
        due("rights(" + page + ", " + rights + ")", hart.rights(page, rights), model.rights[page]);
        model.rights[page] = rights;
    }

    private void poke(int address, int v) {
        calls++;
        hart.poke(address, v);
        model.write(address, 1, v);
    }

    private void setClock(long time) {
        calls++;
        hart.clock(time);
        model.clock = time;
    }

    private void jumpSomewhere() {
        jump(random.nextInt(12) == 0 ? number() : random.nextInt(2 * CODE_WORDS) * 2);
    }

    private void jump(int address) {
        calls++;
        hart.jump(address);
        model.place = address;
    }

    private void step() {
        long place = model.place;
        int cause = model.step();
        due("step() at " + place, hart.step(), cause);
        if (cause != 0) {
            due("cause at " + place, hart.count(1), model.cause);
            due("value at " + place, hart.count(2), model.value);
            jumpSomewhere();
        }
    }

    private void run(int n) {
        due("run(" + n + ")", hart.run(n), model.run(n));
        askCounts();
        jumpSomewhere();
    }

    /** A reserved word is rare by chance: a load reserved, and mostly a store conditional behind a few other calls. */
    private void reserveAndGoOn() {
        int at = random.nextInt(CODE_WORDS) * 4;
        set(5, near() & 0xfffc);
        carryOut(at, Asm.atomic(Asm.LR, 7, 5, 0));
        for (int k = random.nextInt(3); k > 0; k--) {
            step();
        }
        carryOut(at, Asm.atomic(random.nextInt(4) == 0 ? 0 : Asm.SC, 7, 5, 6));
        due("x7", hart.register(7), model.registers[7]);
    }

    private void carryOut(int at, int word) {
        plant(at, word);
        jump(at);
        step();
        due("reserved", hart.count(4), model.reserved);
    }

    private void askOne() {
        int r = random.nextInt(32);
        due("register(" + r + ")", hart.register(r), model.registers[r]);
        int address = near() + random.nextInt(4) & 0xffff;
        due("peek(" + address + ")", hart.peek(address), model.bytes[address]);
    }

    private void askCounts() {
        due("place", hart.count(0), model.place);
        due("cause", hart.count(1), model.cause);
        due("value", hart.count(2), model.value);
        due("retired", hart.count(3), model.retired);
        due("reserved", hart.count(4), model.reserved);
    }

    private void askAll() {
        askCounts();
        for (int r = 0; r < 32; r++) {
            due("register(" + r + ")", hart.register(r), model.registers[r]);
        }
        int written = model.written.size();
        for (int k = Math.max(0, written - WRITTEN_ASKED); k < written; k++) {
            int address = model.written.get(k);
            due("peek(" + address + ")", hart.peek(address), model.bytes[address]);
        }
        if (calls > 512) {
            CHECK.fault(name + "took " + calls + " calls");
        }
    }
}
