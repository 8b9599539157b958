/** Makes instruction words from their parts. */
final class Code {
    private Code() {
    }

    /** OP, D, A and the lowest 16 bits. */
    static int imm(int op, int d, int a, int low) {
        return op << 26 | d << 21 | a << 16 | low & 65535;
    }

    /** OP 31 with bit 0 clear. */
    static int ext(int x, int d, int a, int b) {
        return 31 << 26 | d << 21 | a << 16 | b << 11 | x << 1;
    }

    /** OP 31 with bit 0 set. */
    static int dot(int x, int d, int a, int b) {
        return ext(x, d, a, b) | 1;
    }

    /** OP 19 with bit 0 clear. */
    static int cond(int x, int d, int a, int b) {
        return 19 << 26 | d << 21 | a << 16 | b << 11 | x << 1;
    }

    /** OP 20, 21 or 23 with bit 0 clear. */
    static int rotate(int op, int d, int a, int b, int m, int n) {
        return op << 26 | d << 21 | a << 16 | b << 11 | m << 6 | n << 1;
    }

    /** OP 18; the low bits of the distance are those that tell absolute and link. */
    static int jump(int distance) {
        return 18 << 26 | distance & 0x3FFFFFF;
    }

    static int fromSpecial(int d, int number) {
        return ext(339, d, number & 31, number >> 5);
    }

    static int toSpecial(int number, int d) {
        return ext(467, d, number & 31, number >> 5);
    }
}
