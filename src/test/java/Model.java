import java.math.BigInteger;
import java.util.ArrayList;
import java.util.Arrays;
import java.util.List;

/**
 * A second reading of the document, slow and plain, that shares nothing with RiscHart: instructions are texts of bits,
 * memory is single bytes, arithmetic goes through BigInteger, and a trap is an exception.
 */
final class Model {
    /** Bits from the highest on; the letters are the fields, and a dot may be any bit. */
    static final String[][] LONG = {
        {"upper", ".................... ddddd 0110111"}, {"upper+place", ".................... ddddd 0010111"},
        {"jump", ".................... ddddd 1101111"}, {"jump a", "iiiiiiiiiiii aaaaa 000 ddddd 1100111"},
        {"if =", "....... bbbbb aaaaa 000 ..... 1100011"}, {"if !=", "....... bbbbb aaaaa 001 ..... 1100011"},
        {"if <", "....... bbbbb aaaaa 100 ..... 1100011"}, {"if >=", "....... bbbbb aaaaa 101 ..... 1100011"},
        {"if <u", "....... bbbbb aaaaa 110 ..... 1100011"}, {"if >=u", "....... bbbbb aaaaa 111 ..... 1100011"},
        {"load 1 signed", "iiiiiiiiiiii aaaaa 000 ddddd 0000011"}, {"load 2 signed", "iiiiiiiiiiii aaaaa 001 ddddd 0000011"},
        {"load 4 signed", "iiiiiiiiiiii aaaaa 010 ddddd 0000011"}, {"load 1 unsigned", "iiiiiiiiiiii aaaaa 100 ddddd 0000011"},
        {"load 2 unsigned", "iiiiiiiiiiii aaaaa 101 ddddd 0000011"}, {"store 1", "....... bbbbb aaaaa 000 ..... 0100011"},
        {"store 2", "....... bbbbb aaaaa 001 ..... 0100011"}, {"store 4", "....... bbbbb aaaaa 010 ..... 0100011"},
        {"i +", "iiiiiiiiiiii aaaaa 000 ddddd 0010011"}, {"i <", "iiiiiiiiiiii aaaaa 010 ddddd 0010011"},
        {"i <u", "iiiiiiiiiiii aaaaa 011 ddddd 0010011"}, {"i ^", "iiiiiiiiiiii aaaaa 100 ddddd 0010011"},
        {"i |", "iiiiiiiiiiii aaaaa 110 ddddd 0010011"}, {"i &", "iiiiiiiiiiii aaaaa 111 ddddd 0010011"},
        {"n <<", "0000000 bbbbb aaaaa 001 ddddd 0010011"}, {"n >>>", "0000000 bbbbb aaaaa 101 ddddd 0010011"},
        {"n >>", "0100000 bbbbb aaaaa 101 ddddd 0010011"}, {"r +", "0000000 bbbbb aaaaa 000 ddddd 0110011"},
        {"r <<", "0000000 bbbbb aaaaa 001 ddddd 0110011"}, {"r <", "0000000 bbbbb aaaaa 010 ddddd 0110011"},
        {"r <u", "0000000 bbbbb aaaaa 011 ddddd 0110011"}, {"r ^", "0000000 bbbbb aaaaa 100 ddddd 0110011"},
        {"r >>>", "0000000 bbbbb aaaaa 101 ddddd 0110011"}, {"r |", "0000000 bbbbb aaaaa 110 ddddd 0110011"},
        {"r &", "0000000 bbbbb aaaaa 111 ddddd 0110011"}, {"r -", "0100000 bbbbb aaaaa 000 ddddd 0110011"},
        {"r >>", "0100000 bbbbb aaaaa 101 ddddd 0110011"}, {"r *", "0000001 bbbbb aaaaa 000 ddddd 0110011"},
        {"r *ss", "0000001 bbbbb aaaaa 001 ddddd 0110011"}, {"r *su", "0000001 bbbbb aaaaa 010 ddddd 0110011"},
        {"r *uu", "0000001 bbbbb aaaaa 011 ddddd 0110011"}, {"r /", "0000001 bbbbb aaaaa 100 ddddd 0110011"},
        {"r /u", "0000001 bbbbb aaaaa 101 ddddd 0110011"}, {"r %", "0000001 bbbbb aaaaa 110 ddddd 0110011"},
        {"r %u", "0000001 bbbbb aaaaa 111 ddddd 0110011"}, {"reserve", "00010.. 00000 aaaaa 010 ddddd 0101111"},
        {"conditional", "00011.. bbbbb aaaaa 010 ddddd 0101111"}, {"atomic b", "00001.. bbbbb aaaaa 010 ddddd 0101111"},
        {"atomic +", "00000.. bbbbb aaaaa 010 ddddd 0101111"}, {"atomic ^", "00100.. bbbbb aaaaa 010 ddddd 0101111"},
        {"atomic &", "01100.. bbbbb aaaaa 010 ddddd 0101111"}, {"atomic |", "01000.. bbbbb aaaaa 010 ddddd 0101111"},
        {"atomic min", "10000.. bbbbb aaaaa 010 ddddd 0101111"}, {"atomic max", "10100.. bbbbb aaaaa 010 ddddd 0101111"},
        {"atomic minu", "11000.. bbbbb aaaaa 010 ddddd 0101111"}, {"atomic maxu", "11100.. bbbbb aaaaa 010 ddddd 0101111"},
        {"nothing", "............ ..... 000 ..... 0001111"}, {"nothing", "............ ..... 001 ..... 0001111"},
        {"call", "000000000000 00000 000 00000 1110011"}, {"break", "000000000001 00000 000 00000 1110011"},
        {"retired low", "1100000000.0 00000 .1. ddddd 1110011"}, {"retired high", "1100100000.0 00000 .1. ddddd 1110011"},
        {"clock low", "110000000001 00000 .1. ddddd 1110011"}, {"clock high", "110010000001 00000 .1. ddddd 1110011"},
    };
    /** A small d, s or a stands for the three bits of x8 .. x15; earlier rows go before later ones. */
    static final String[][] SHORT = {
        {"illegal", "000 00000000 ... 00"}, {"x2 to near", "000 uuuuuuuu sss 00"}, {"load near", "010 ... aaa .. sss 00"},
        {"store near", "110 ... aaa .. sss 00"}, {"D += N", "000 n DDDDD nnnnn 01"}, {"jump 1", "001 jjjjjjjjjjj 01"},
        {"jump 0", "101 jjjjjjjjjjj 01"}, {"D = N", "010 n DDDDD nnnnn 01"}, {"illegal", "011 0 ..... 00000 01"},
        {"x2 +=", "011 n 00010 nnnnn 01"}, {"D = N up", "011 n DDDDD nnnnn 01"}, {"near >>>", "100 0 00 aaa nnnnn 01"},
        {"near >>", "100 0 01 aaa nnnnn 01"}, {"near & N", "100 n 10 aaa nnnnn 01"}, {"near -", "100 0 11 aaa 00 sss 01"},
        {"near ^", "100 0 11 aaa 01 sss 01"}, {"near |", "100 0 11 aaa 10 sss 01"}, {"near &", "100 0 11 aaa 11 sss 01"},
        {"if 0", "110 ttt aaa ttttt 01"}, {"if not 0", "111 ttt aaa ttttt 01"}, {"D <<", "000 0 DDDDD nnnnn 10"},
        {"illegal", "010 . 00000 ..... 10"}, {"load x2", "010 u DDDDD uuuuu 10"}, {"illegal", "100 0 00000 00000 10"},
        {"jump D", "100 0 DDDDD 00000 10"}, {"D = B", "100 0 DDDDD BBBBB 10"}, {"break", "100 1 00000 00000 10"},
        {"call D", "100 1 DDDDD 00000 10"}, {"D += B", "100 1 DDDDD BBBBB 10"}, {"store x2", "110 uuuuuu BBBBB 10"},
    };
    private static final BigInteger TWO_32 = BigInteger.ONE.shiftLeft(32);

    final int[] bytes = new int[65536];
    final int[] rights = new int[64];
    final int[] registers = new int[32];
    /** The addresses that instructions and calls have written, the latest last. */
    final List<Integer> written = new ArrayList<>();
    int place;
    int cause;
    int value;
    long retired;
    long clock;
    long reserved = -1;
    private String bits;
    private String pattern;
    private int next;

    Model() {
        Arrays.fill(rights, 7);
    }

    private static final class Trap extends Exception {
        private static final long serialVersionUID = 1;
        final int cause;
        final int value;

        Trap(int cause, int value) {
            super(null, null, false, false);
            this.cause = cause;
            this.value = value;
        }
    }

    int step() {
        try {
            carryOutNext();
        } catch (Trap trap) {
            cause = trap.cause;
            value = trap.value;
            return cause;
        }
        retired++;
        place = next;
        return 0;
    }

    int run(int n) {
        int done = 0;
        while (done < n && step() == 0) {
            done++;
        }
        return done;
    }

    void write(int address, int many, int v) {
        for (int k = 0; k < many; k++) {
            bytes[address + k] = (v >>> 8 * k) & 255;
            written.add(address + k);
            if (reserved >= 0 && address + k >= reserved && address + k <= reserved + 3) {
                reserved = -1;
            }
        }
    }

    private void carryOutNext() throws Trap {
        if (place % 2 != 0) {
            throw new Trap(1, place);
        }
        int half = fetch(0) + 256 * fetch(1);
        boolean isLong = half % 4 == 3;
        int whole = isLong ? half + (fetch(2) << 16) + (fetch(3) << 24) : half;
        bits = text(whole, isLong ? 32 : 16);
        next = place + (isLong ? 4 : 2);
        String name = nameIn(isLong ? LONG : SHORT);
        if (name.equals("illegal")) {
            throw new Trap(2, whole);
        }
        if (name.equals("call") || name.equals("break")) {
            throw new Trap(name.equals("call") ? 3 : 4, 0);
        }
        if (isLong) {
            carryOutLong(name);
        } else {
            carryOutShort(name);
        }
    }

    private int fetch(int k) throws Trap {
        long address = (place & 0xffffffffL) + k;
        if (address > 65535 || rights[(int) address / 1024] < 4) {
            throw new Trap(1, place);
        }
        return bytes[(int) address];
    }

    static String text(int whole, int many) {
        StringBuilder text = new StringBuilder();
        for (int k = many - 1; k >= 0; k--) {
            text.append((whole >>> k) % 2 == 0 ? '0' : '1');
        }
        return text.toString();
    }

    private String nameIn(String[][] rows) {
        for (String[] row : rows) {
            pattern = row[1].replace(" ", "");
            boolean fits = true;
            for (int k = 0; k < bits.length(); k++) {
                char c = pattern.charAt(k);
                fits &= c != '0' && c != '1' || c == bits.charAt(k);
            }
            if (fits) {
                return row[0];
            }
        }
        return "illegal";
    }

    /** The text of the bits of the field, from the highest on. */
    private String field(char letter) {
        StringBuilder text = new StringBuilder();
        for (int k = 0; k < bits.length(); k++) {
            if (pattern.charAt(k) == letter) {
                text.append(bits.charAt(k));
            }
        }
        return text.toString();
    }

    /** The text of the bits least .. most. */
    private String part(int least, int most) {
        return bits.substring(bits.length() - 1 - most, bits.length() - least);
    }

    private static int unsigned(String text) {
        return new BigInteger(text, 2).intValue();
    }

    private static int signed(String text) {
        return unsigned(text) - (text.charAt(0) == '1' ? 1 << text.length() : 0);
    }

    private int named(char letter) {
        return unsigned(field(letter));
    }

    private void give(int r, int v) {
        registers[r] = v;
        registers[0] = 0;
    }

    private void jumpTo(int address) {
        next = address - Math.floorMod(address, 2);
    }

    private int get(int address, int many, boolean isSigned) throws Trap {
        test(address, many, 1);
        int v = 0;
        for (int k = many - 1; k >= 0; k--) {
            v = v * 256 + bytes[address + k];
        }
        return isSigned && many < 4 && v >= 1 << 8 * many - 1 ? v - (1 << 8 * many) : v;
    }

    private void put(int address, int many, int v) throws Trap {
        test(address, many, 2);
        write(address, many, v);
    }

    private void test(int address, int many, int right) throws Trap {
        if (Math.floorMod(address, many) != 0) {
            throw new Trap(5, address);
        }
        for (int k = 0; k < many; k++) {
            long at = Integer.toUnsignedLong(address) + k;
            if (at > 65535 || (rights[(int) (at / 1024)] & right) == 0) {
                throw new Trap(right == 1 ? 6 : 7, address);
            }
        }
    }

    private void carryOutLong(String name) throws Trap {
        String[] words = name.split(" ");
        int a = field('a').isEmpty() ? 0 : registers[named('a')];
        int b = field('b').isEmpty() ? 0 : registers[named('b')];
        int d = field('d').isEmpty() ? 0 : named('d');
        int i = field('i').isEmpty() ? 0 : signed(field('i'));
        switch (words[0]) {
            case "nothing": return;
            case "upper": give(d, unsigned(part(12, 31) + "000000000000")); return;
            case "upper+place": give(d, place + unsigned(part(12, 31) + "000000000000")); return;
            case "jump": longJump(words, d, a, i); return;
            case "if": longIf(words[1], a, b); return;
            case "load": give(d, get(a + i, Integer.parseInt(words[1]), words[2].equals("signed"))); return;
            case "store": put(a + signed(part(25, 31) + part(7, 11)), Integer.parseInt(words[1]), b); return;
            case "i": give(d, result(words[1], a, i)); return;
            case "n": give(d, result(words[1], a, named('b'))); return;
            case "r": give(d, result(words[1], a, b)); return;
            case "retired": give(d, half(retired, words[1])); return;
            case "clock": give(d, half(clock, words[1])); return;
            default: atomic(words, d, a, b);
        }
    }

    private static int half(long number, String which) {
        return BigInteger.valueOf(number).shiftRight(which.equals("low") ? 0 : 32).intValue();
    }

    private void longJump(String[] words, int d, int a, int i) {
        String j = part(31, 31) + part(12, 19) + part(20, 20) + part(21, 30) + "0";
        jumpTo(words.length == 2 ? a + i : place + signed(j));
        give(d, place + 4);
    }

    private void longIf(String relation, int a, int b) {
        boolean turned = relation.startsWith("!") || relation.startsWith(">");
        String straight = relation.replace("!=", "=").replace(">=", "<");
        boolean holds = straight.equals("=") ? a == b : result(straight, a, b) == 1;
        if (holds != turned) {
            jumpTo(place + signed(part(31, 31) + part(7, 7) + part(25, 30) + part(8, 11) + "0"));
        }
    }

    private void atomic(String[] words, int d, int address, int b) throws Trap {
        if (words[0].equals("reserve")) {
            give(d, get(address, 4, true));
            reserved = address;
            return;
        }
        test(address, 4, 2);
        int word = get(address, 4, true);
        if (words[0].equals("atomic")) {
            put(address, 4, result(words[1], word, b));
            give(d, word);
            return;
        }
        boolean holds = reserved == address;
        if (holds) {
            put(address, 4, b);
        }
        reserved = -1;
        give(d, holds ? 0 : 1);
    }

    private static BigInteger s(int number) {
        return BigInteger.valueOf(number);
    }

    private static BigInteger u(int number) {
        return s(number).mod(TWO_32);
    }

    private static int result(String what, int a, int b) {
        boolean byZero = b == 0;
        int shift = Math.floorMod(b, 32);
        switch (what) {
            case "b": return b;
            case "+": return s(a).add(s(b)).intValue();
            case "-": return s(a).subtract(s(b)).intValue();
            case "^": return s(a).xor(s(b)).intValue();
            case "|": return s(a).or(s(b)).intValue();
            case "&": return s(a).and(s(b)).intValue();
            case "<": return s(a).compareTo(s(b)) < 0 ? 1 : 0;
            case "<u": return u(a).compareTo(u(b)) < 0 ? 1 : 0;
            case "<<": return u(a).shiftLeft(shift).intValue();
            case ">>>": return u(a).shiftRight(shift).intValue();
            case ">>": return s(a).shiftRight(shift).intValue();
            case "*": return s(a).multiply(s(b)).intValue();
            case "*ss": return s(a).multiply(s(b)).shiftRight(32).intValue();
            case "*su": return s(a).multiply(u(b)).shiftRight(32).intValue();
            case "*uu": return u(a).multiply(u(b)).shiftRight(32).intValue();
            case "/": return byZero ? -1 : s(a).divide(s(b)).intValue();
            case "/u": return byZero ? -1 : u(a).divide(u(b)).intValue();
            case "%": return byZero ? a : s(a).remainder(s(b)).intValue();
            case "%u": return byZero ? a : u(a).remainder(u(b)).intValue();
            case "min": return s(a).min(s(b)).intValue();
            case "max": return s(a).max(s(b)).intValue();
            case "minu": return u(a).min(u(b)).intValue();
            case "maxu": return u(a).max(u(b)).intValue();
            default: throw new IllegalStateException(what);
        }
    }

    private static int scattered(String pattern, String text) {
        return Half.read(unsigned(text), text.length() - 1, pattern);
    }

    private static int scatteredSigned(String pattern, String text, int many) {
        return signed(text(scattered(pattern, text), many));
    }

    private void carryOutShort(String name) throws Trap {
        int near = field('a').isEmpty() ? 0 : 8 + named('a');
        int other = field('s').isEmpty() ? 0 : 8 + named('s');
        int d = field('D').isEmpty() ? 0 : named('D');
        int b = field('B').isEmpty() ? 0 : named('B');
        int n = field('n').length() == 6 ? signed(field('n')) : field('n').isEmpty() ? 0 : named('n');
        int x2 = registers[2];
        int nearAddress = registers[near] + scattered("5:3|2|6", part(10, 12) + part(6, 6) + part(5, 5));
        switch (name) {
            case "x2 to near": give(other, x2 + scattered("5:4|9:6|2|3", field('u'))); return;
            case "load near": give(other, get(nearAddress, 4, true)); return;
            case "store near": put(nearAddress, 4, registers[other]); return;
            case "D += N": give(d, registers[d] + n); return;
            case "D = N": give(d, n); return;
            case "D = N up": give(d, n * 4096); return;
            case "x2 +=": give(2, x2 + scatteredSigned("9|4|6|8:7|5", field('n'), 10)); return;
            case "near & N": give(near, result("&", registers[near], n)); return;
            case "near >>>": case "near >>": give(near, result(name.substring(5), registers[near], n)); return;
            case "D <<": give(d, result("<<", registers[d], n)); return;
            case "D = B": give(d, registers[b]); return;
            case "D += B": give(d, registers[d] + registers[b]); return;
            case "load x2": give(d, get(x2 + scattered("5|4:2|7:6", field('u')), 4, true)); return;
            case "store x2": put(x2 + scattered("5:2|7:6", field('u')), 4, registers[b]); return;
            case "jump 1": case "jump 0": case "jump D": case "call D": case "if 0": case "if not 0":
                shortJump(name, near, d);
                return;
            default: give(near, result(name.substring(5), registers[near], registers[other]));
        }
    }

    private void shortJump(String name, int near, int d) {
        switch (name) {
            case "jump 1": case "jump 0":
                jumpTo(place + scatteredSigned("11|4|9:8|10|6|7|3:1|5", field('j'), 12));
                give(name.equals("jump 1") ? 1 : 0, place + 2);
                return;
            case "jump D": case "call D":
                jumpTo(registers[d]);
                give(name.equals("call D") ? 1 : 0, place + 2);
                return;
            default:
                if ((registers[near] == 0) == name.equals("if 0")) {
                    jumpTo(place + scatteredSigned("8|4:3|7:6|2:1|5", field('t'), 9));
                }
        }
    }
}
