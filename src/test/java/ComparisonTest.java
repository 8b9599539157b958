/** Promise 8: the instructions that compare or trap. */
public final class ComparisonTest {
    private static final int LESS = 8;
    private static final int GREATER = 4;
    private static final int EQUAL = 2;

    private final Check check = new Check();

    public static void main(String[] args) {
        ComparisonTest test = new ComparisonTest();
        test.comparisons();
        test.traps();
        test.check.end();
    }

    private static int order(long x, long y) {
        return x < y ? LESS : x > y ? GREATER : EQUAL;
    }

    private static long unsigned(int x) {
        return x & 0xFFFFFFFFL;
    }

    private void comparisons() {
        int[] values = {0, 1, -1, 32767, -32768, 32768, 65535, 65536, Integer.MIN_VALUE, Integer.MAX_VALUE};
        for (int x : values) {
            for (int y : values) {
                compare("X 0", Code.ext(0, 0, 4, 5), x, y, order(x, y));
                compare("X 32", Code.ext(32, 0, 4, 5), x, y, order(unsigned(x), unsigned(y)));
                compare("OP 10", Code.imm(10, 0, 4, y), x, y, order(unsigned(x), y & 65535));
                compare("OP 11", Code.imm(11, 0, 4, y), x, y, order(x, (short) y));
            }
        }
    }

    /** Into every field, with the two bits of D that tell no field set, and SO in turns. */
    private void compare(String name, int instruction, int x, int y, int want) {
        for (int f = 0; f < 8; f++) {
            String what = name + " of " + x + " and " + y + " into " + f;
            int shift = 28 - 4 * f;
            int so = f & 1;
            Bench bench = new Bench(check).reg(4, x).reg(5, y).spec(Bench.CR, 0x5A5A5A5A);
            bench.spec(Bench.XER, so << 31 | Bench.CA).run(0, instruction | f << 23 | (f & 3) << 21);
            bench.isSpec(what, Bench.CR, 0x5A5A5A5A & ~(15 << shift) | (want | so) << shift);
            bench.isSpec(what, Bench.XER, so << 31 | Bench.CA).isReg(what, 4, x).isSpec(what, Bench.PC, 4);
        }
    }

    private void traps() {
        int[][] pairs = {{1, 2}, {2, 1}, {5, 5}, {-1, 1}, {1, -1}, {-2, -1}, {0, 0}, {-32768, 32767}};
        for (int[] pair : pairs) {
            for (int d = 0; d < 32; d++) {
                trap("OP 3", Code.imm(3, d, 4, pair[1]), d, pair[0], pair[1]);
                trap("X 4", Code.ext(4, d, 4, 5), d, pair[0], pair[1]);
            }
        }
        trap("X 4", Code.ext(4, 16, 4, 5), 16, Integer.MIN_VALUE, Integer.MAX_VALUE);
        trap("X 4", Code.ext(4, 2, 4, 5), 2, Integer.MIN_VALUE, Integer.MAX_VALUE);
    }

    private void trap(String name, int instruction, int d, int x, int y) {
        boolean due = (d & 16) != 0 && x < y
                || (d & 8) != 0 && x > y
                || (d & 4) != 0 && x == y
                || (d & 2) != 0 && unsigned(x) < unsigned(y)
                || (d & 1) != 0 && unsigned(x) > unsigned(y);
        String what = name + " D " + d + " of " + x + " and " + y;
        Bench bench = new Bench(check).reg(4, x).reg(5, y).spec(Bench.MSR, Bench.EE | 2).spec(Bench.CR, 77);
        if (due) {
            bench.fail(64, instruction).isException(what, 1792, 64, Bench.TRAP | Bench.EE | 2);
            bench.isSpec(what, Bench.MSR, 2);
        } else {
            bench.run(64, instruction).isSpec(what, Bench.PC, 68).isSpec(what, Bench.MSR, Bench.EE | 2);
            check.due(what + " vector", bench.p.vector(), 0);
        }
        bench.isSpec(what, Bench.CR, 77);
    }
}
