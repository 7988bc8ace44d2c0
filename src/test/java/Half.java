import java.util.Arrays;

/** Short instructions from their parts, and the document's patterns, such as 5:4|9:6|2|3, of their numbers. */
final class Half {
    private Half() {
    }

    static int of(int q, int f, int bit12, int d, int b) {
        return q | b << 2 | d << 7 | bit12 << 12 | f << 13;
    }

    /** The number whose bits the pattern names for the bits of the half from the highest on. */
    static int read(int half, int highest, String pattern) {
        int number = 0;
        int at = highest;
        for (int bit : order(pattern)) {
            number |= (half >> at & 1) << bit;
            at--;
        }
        return number;
    }

    /** The bits of a half, from the highest on, that hold those bits of the number that the pattern names. */
    static int write(int number, int highest, String pattern) {
        int half = 0;
        int at = highest;
        for (int bit : order(pattern)) {
            half |= (number >> bit & 1) << at;
            at--;
        }
        return half;
    }

    private static int[] order(String pattern) {
        int[] bits = new int[16];
        int many = 0;
        for (String part : pattern.split("\\|")) {
            String[] ends = part.split(":");
            int last = Integer.parseInt(ends[ends.length - 1]);
            for (int bit = Integer.parseInt(ends[0]); bit >= last; bit--) {
                bits[many++] = bit;
            }
        }
        return Arrays.copyOf(bits, many);
    }
}
