import java.util.ArrayList;
import java.util.List;
import java.util.Random;

/** Promise 10: a long word is ILLEGAL just where no row of a table of masks and matches has it. */
public final class LegalTest {
    private static final Check CHECK = new Check();
    private static final int WORDS_PER_OBJECT = 100;
    private static final int OPCODE = 0x0000007f;
    private static final int WITH_F = 0x0000707f;
    private static final int WITH_G = 0xfe00707f;
    private static final int WITH_K = 0xf800707f;
    private static final List<int[]> TABLE = table();

    private static RiscHart hart;
    private static int used;

    public static void main(String[] args) {
        everyOpcodeAndF();
        everyG();
        counters();
        system();
        randomWords();
        CHECK.end();
    }

    private static List<int[]> table() {
        List<int[]> rows = new ArrayList<>();
        add(rows, OPCODE, 0x37, 0x17, 0x6f);
        add(rows, WITH_F, 0x67, 0x0063, 0x1063, 0x4063, 0x5063, 0x6063, 0x7063);
        add(rows, WITH_F, 0x0003, 0x1003, 0x2003, 0x4003, 0x5003, 0x0023, 0x1023, 0x2023);
        add(rows, WITH_F, 0x0013, 0x2013, 0x3013, 0x4013, 0x6013, 0x7013, 0x000f, 0x100f);
        add(rows, WITH_G, 0x1013, 0x5013, 0x40005013, 0x40000033, 0x40005033);
        for (int f = 0; f < 8; f++) {
            add(rows, WITH_G, 0x33 | f << 12, 0x02000033 | f << 12);
        }
        for (int k : new int[] {0, 1, 3, 4, 8, 12, 16, 20, 24, 28}) {
            add(rows, WITH_K, 0x202f | k << 27);
        }
        add(rows, 0xf9f0707f, 0x1000202f);
        for (int f : new int[] {2, 3, 6, 7}) {
            for (int which : new int[] {0xc00, 0xc01, 0xc02, 0xc80, 0xc81, 0xc82}) {
                add(rows, 0xfffff07f, 0x73 | f << 12 | which << 20);
            }
        }
        add(rows, -1, Asm.CALL, Asm.BREAK);
        return rows;
    }

    private static void add(List<int[]> rows, int mask, int... matches) {
        for (int match : matches) {
            rows.add(new int[] {mask, match});
        }
    }

    private static boolean isLegal(int word) {
        for (int[] row : TABLE) {
            if ((word & row[0]) == row[1]) {
                return true;
            }
        }
        return false;
    }

    private static void ask(int word) {
        if (used % WORDS_PER_OBJECT == 0) {
            hart = new RiscHart();
        }
        used++;
        hart.plant(64, word);
        hart.jump(64);
        int cause = hart.step();
        CHECK.same("illegal " + Integer.toHexString(word), cause == 2 ? 1 : 0, isLegal(word) ? 0 : 1);
        if (cause == 2) {
            CHECK.same("value", hart.count(2), word);
        }
    }

    private static void everyOpcodeAndF() {
        for (int opcode = 3; opcode < 128; opcode += 4) {
            for (int f = 0; f < 8; f++) {
                ask(opcode | f << 12);
                ask(opcode | f << 12 | 0xffff8f80);
                ask(opcode | f << 12 | 0x01f00000);
                ask(opcode | f << 12 | 0x00008080);
            }
        }
    }

    private static void everyG() {
        for (int opcode : new int[] {0x13, 0x33, 0x2f}) {
            for (int f = 0; f < 8; f++) {
                for (int g = 0; g < 128; g++) {
                    ask(opcode | f << 12 | g << 25);
                    ask(opcode | f << 12 | g << 25 | 0x00108080);
                    ask(opcode | f << 12 | g << 25 | 0x01ff8f80);
                }
            }
        }
    }

    private static void counters() {
        for (int which = 0; which < 4096; which++) {
            for (int f = 0; f < 8; f++) {
                ask(Asm.counter(f, 0, 0, which));
                ask(Asm.counter(f, 7, 0, which));
                ask(Asm.counter(f, 7, 1, which));
                ask(Asm.counter(f, 0, 16, which));
            }
        }
    }

    private static void system() {
        for (int bit = 7; bit < 32; bit++) {
            ask(Asm.CALL ^ 1 << bit);
            ask(Asm.BREAK ^ 1 << bit);
        }
    }

    private static void randomWords() {
        Random random = new Random(20261115);
        int[] opcodes = {0x37, 0x17, 0x6f, 0x67, 0x63, 0x03, 0x23, 0x13, 0x33, 0x2f, 0x0f, 0x73};
        for (int k = 0; k < 200000; k++) {
            int word = random.nextInt();
            ask(word | 3);
            ask(word & ~OPCODE | opcodes[k % opcodes.length]);
        }
    }
}
