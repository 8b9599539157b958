import java.math.BigInteger;

/** The edges of sums, products and quotients: a method for each sentence that names one. */
public final class SumEdgesTest {
    private static final int MIN = Integer.MIN_VALUE;
    private static final int MAX = Integer.MAX_VALUE;
    private static final int[] EDGES = {0, 1, 2, MAX - 1, MAX, MIN, MIN + 1, -2, -1};
    private static final int[] CONSTANTS = {0, 1, 2, 32766, 32767, -32768, -32767, -2, -1};

    private final Check check = new Check();

    public static void main(String[] args) {
        SumEdgesTest test = new SumEdgesTest();
        test.productWithConstant();
        test.differenceFromConstant();
        test.sumWithConstant();
        test.plainSumWithConstant();
        test.shiftedConstant();
        test.sums();
        test.differences();
        test.sumsWithCarryOut();
        test.differencesWithCarryOut();
        test.sumsWithCarryIn();
        test.complementsWithCarryIn();
        test.negation();
        test.products();
        test.upperProducts();
        test.quotients();
        test.unsignedQuotients();
        test.sameRegisters();
        test.check.end();
    }

    private static long unsigned(int x) {
        return x & 0xFFFFFFFFL;
    }

    private static boolean carries(long sum) {
        return sum >= 1L << 32;
    }

    private Twins constant(int op, int a, int s, boolean before) {
        return new Twins(check, "OP " + op + " of " + a + " and " + s).reg(4, a)
                .spec(Bench.XER, before ? -1 : 0x5A).run(Code.imm(op, 3, 4, s));
    }

    /** Without and with bit 0, and with CA before as told. */
    private void extended(int x, int a, int b, boolean before, int want, boolean after) {
        for (int bit = 0; bit < 2; bit++) {
            Twins twins = new Twins(check, "X " + x + " of " + a + " and " + b + " bit 0 " + bit);
            twins.reg(4, a).reg(5, b).spec(Bench.XER, before ? -1 : ~Bench.CA).run(Code.ext(x, 3, 4, 5) | bit);
            twins.dueReg(3, want).dueCarry(after);
            if (bit == 1) {
                twins.dueRecord(want);
            }
            twins.same();
        }
    }

    /** "7: d = a * S." */
    private void productWithConstant() {
        for (int a : EDGES) {
            for (int s : CONSTANTS) {
                constant(7, a, s, true).dueReg(3, (int) ((long) a * s)).same();
            }
        }
    }

    /** "8: d = S - a, CA." with "for x - y, x + (2^32 - 1 - y) + 1, is 2^32 or more, else 0". */
    private void differenceFromConstant() {
        for (int a : EDGES) {
            for (int s : CONSTANTS) {
                for (int before = 0; before < 2; before++) {
                    boolean carry = carries(unsigned(s) + (4294967295L - unsigned(a)) + 1);
                    constant(8, a, s, before == 1).dueReg(3, (int) ((long) s - a)).dueCarry(carry).same();
                }
            }
        }
        constant(8, 5, 5, false).dueReg(3, 0).dueCarry(true).same();
        constant(8, 6, 5, true).dueReg(3, -1).dueCarry(false).same();
    }

    /** "12: d = a + S, CA; 13: the same, recorded." with "the exact sum of the unsigned operands". */
    private void sumWithConstant() {
        for (int a : EDGES) {
            for (int s : CONSTANTS) {
                for (int before = 0; before < 2; before++) {
                    int want = (int) ((long) a + s);
                    boolean carry = carries(unsigned(a) + unsigned(s));
                    constant(12, a, s, before == 1).dueReg(3, want).dueCarry(carry).same();
                    constant(13, a, s, before == 1).dueReg(3, want).dueCarry(carry).dueRecord(want).same();
                }
            }
        }
        constant(12, -1, 0, true).dueReg(3, -1).dueCarry(false).same();
        constant(12, -1, 1, false).dueReg(3, 0).dueCarry(true).same();
    }

    /** "14: d = a0 + S.": no CA. */
    private void plainSumWithConstant() {
        for (int s : CONSTANTS) {
            constant(14, -1, s, false).dueReg(3, s - 1).same();
            constant(14, MIN, s, true).dueReg(3, (int) ((long) MIN + s)).same();
        }
    }

    /** "15: d = a0 + S * 65536." */
    private void shiftedConstant() {
        for (int s : CONSTANTS) {
            constant(15, -1, s, false).dueReg(3, (int) (s * 65536L - 1)).same();
            constant(15, MIN, s, true).dueReg(3, (int) (s * 65536L + MIN)).same();
        }
    }

    /** "X 266: d = a + b .": no CA. */
    private void sums() {
        for (int a : EDGES) {
            for (int b : EDGES) {
                extended(266, a, b, false, (int) ((long) a + b), false);
            }
        }
        extended(266, -1, -1, true, -2, true);
        extended(266, 1, 1, true, 2, true);
    }

    /** "X 40: d = b - a .": no CA. */
    private void differences() {
        for (int a : EDGES) {
            for (int b : EDGES) {
                extended(40, a, b, false, (int) ((long) b - a), false);
            }
        }
        extended(40, 1, 2, true, 1, true);
        extended(40, 2, 1, true, -1, true);
    }

    /** "X 10: d = a + b, CA ." */
    private void sumsWithCarryOut() {
        for (int a : EDGES) {
            for (int b : EDGES) {
                boolean carry = carries(unsigned(a) + unsigned(b));
                extended(10, a, b, false, (int) ((long) a + b), carry);
                extended(10, a, b, true, (int) ((long) a + b), carry);
            }
        }
    }

    /** "X 8: d = b - a, CA ." */
    private void differencesWithCarryOut() {
        for (int a : EDGES) {
            for (int b : EDGES) {
                boolean carry = unsigned(b) >= unsigned(a);
                extended(8, a, b, false, (int) ((long) b - a), carry);
                extended(8, a, b, true, (int) ((long) b - a), carry);
            }
        }
    }

    /** "X 138: d = a + b + CA, CA ." and "(CA as said, of all that is added.)" */
    private void sumsWithCarryIn() {
        for (int a : EDGES) {
            for (int b : EDGES) {
                extended(138, a, b, false, (int) ((long) a + b), carries(unsigned(a) + unsigned(b)));
                extended(138, a, b, true, (int) ((long) a + b + 1), carries(unsigned(a) + unsigned(b) + 1));
            }
        }
        extended(138, -1, 0, true, 0, true);
        extended(138, -1, 0, false, -1, false);
        extended(138, -1, -1, true, -1, true);
    }

    /** "X 136: d = ~a + b + CA, CA ." */
    private void complementsWithCarryIn() {
        for (int a : EDGES) {
            for (int b : EDGES) {
                long sum = unsigned(~a) + unsigned(b);
                extended(136, a, b, false, (int) sum, carries(sum));
                extended(136, a, b, true, (int) (sum + 1), carries(sum + 1));
            }
        }
        extended(136, 7, 7, true, 0, true);
        extended(136, 7, 7, false, -1, false);
    }

    /** "X 104: d = -a .": of 0 and of -2^31 too, whatever b is. */
    private void negation() {
        for (int b : new int[] {0, -1}) {
            extended(104, 0, b, false, 0, false);
            extended(104, 1, b, true, -1, true);
            extended(104, -1, b, false, 1, false);
            extended(104, MAX, b, false, MIN + 1, false);
            extended(104, MIN, b, true, MIN, true);
        }
    }

    /** "X 235: d = a * b ." */
    private void products() {
        for (int a : EDGES) {
            for (int b : EDGES) {
                extended(235, a, b, false, (int) ((long) a * b), false);
            }
        }
        extended(235, 46341, 46341, true, 46341 * 46341, true);
    }

    /** "X 75, 11: d = the upper 32 bits of the product of a and b, as ints, unsigned ." */
    private void upperProducts() {
        for (int a : EDGES) {
            for (int b : EDGES) {
                extended(75, a, b, false, (int) ((long) a * b >> 32), false);
                extended(11, a, b, true, upper(a, b), true);
            }
        }
        extended(75, MIN, MIN, false, 1 << 30, false);
        extended(75, -1, 1, false, -1, false);
        extended(11, -1, 1, false, 0, false);
        extended(11, -1, -1, false, -2, false);
        extended(11, MIN, 2, false, 1, false);
        extended(75, MIN, 2, false, -1, false);
    }

    private static int upper(int a, int b) {
        return BigInteger.valueOf(unsigned(a)).multiply(BigInteger.valueOf(unsigned(b)))
                .shiftRight(32).intValue();
    }

    /** "X 491: d = a / b, rounded to 0, but 0 if b is 0, or a is -2^31 and b is -1 ." */
    private void quotients() {
        for (int a : EDGES) {
            extended(491, a, 0, false, 0, false);
            extended(491, a, 0, true, 0, true);
            extended(491, a, 1, false, a, false);
            extended(491, a, -1, false, a == MIN ? 0 : -a, false);
            extended(491, a, MIN, false, a == MIN ? 1 : 0, false);
        }
        extended(491, 7, 2, false, 3, false);
        extended(491, -7, 2, false, -3, false);
        extended(491, 7, -2, true, -3, true);
        extended(491, -7, -2, false, 3, false);
        extended(491, -1, 2, false, 0, false);
        extended(491, MIN, 2, false, -(1 << 30), false);
        extended(491, MIN + 1, -1, false, MAX, false);
        extended(491, MIN, -2, false, 1 << 30, false);
        extended(491, MIN, MAX, false, -1, false);
    }

    /** "X 459: unsigned, 0 if b is 0 ." */
    private void unsignedQuotients() {
        for (int a : EDGES) {
            extended(459, a, 0, false, 0, false);
            extended(459, a, 0, true, 0, true);
            extended(459, a, 1, false, a, false);
            extended(459, a, -1, false, a == -1 ? 1 : 0, false);
            extended(459, a, MIN, false, a < 0 ? 1 : 0, false);
            extended(459, a, 2, true, a >>> 1, true);
        }
        extended(459, MIN, -1, false, 0, false);
        extended(459, -1, MAX, false, 2, false);
        extended(459, -2, -1, false, 0, false);
    }

    /** D, A and B that are one register: its old value counts, and the result stands in it. */
    private void sameRegisters() {
        same(266, 5, 10);
        same(40, 5, 0);
        same(104, 5, -5);
        same(235, 5, 25);
        same(491, 5, 1);
        same(459, -5, 1);
        same(75, MIN, 1 << 30);
        new Twins(check, "8 into its own register").reg(4, 5).run(Code.imm(8, 4, 4, 7)).dueReg(4, 2)
                .dueCarry(true).same();
        new Twins(check, "14 into its own register").reg(4, 5).run(Code.imm(14, 4, 4, 7)).dueReg(4, 12).same();
    }

    private void same(int x, int value, int want) {
        new Twins(check, "X " + x + " of one register").reg(4, value).run(Code.dot(x, 4, 4, 4)).dueReg(4, want)
                .dueRecord(want).same();
    }
}
