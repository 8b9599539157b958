/** Promise 8: the instructions that add, subtract, multiply and divide. */
public final class ArithmeticTest {
    private static final int MIN = Integer.MIN_VALUE;
    private static final int MAX = Integer.MAX_VALUE;
    private static final int LESS = 8 << 28;
    private static final int GREATER = 4 << 28;
    private static final int EQUAL = 2 << 28;

    private final Check check = new Check();

    public static void main(String[] args) {
        ArithmeticTest test = new ArithmeticTest();
        test.immediates();
        test.sums();
        test.products();
        test.quotients();
        test.recording();
        test.overflowFormsAreNotListed();
        test.check.end();
    }

    /** One instruction with D 3 and A 4; XER holds all but CA, which is as told before and after. */
    private void immediate(int op, int a, int s, int want, boolean before, boolean after) {
        String what = "OP " + op + " of " + a + " and " + s;
        Bench bench = new Bench(check).reg(4, a).spec(Bench.XER, before ? -1 : ~Bench.CA).spec(Bench.CR, 0x12345678);
        bench.run(0, Code.imm(op, 3, 4, s)).isReg(what, 3, want).isReg(what, 4, a).isSpec(what, Bench.PC, 4);
        bench.isSpec(what, Bench.XER, after ? -1 : ~Bench.CA);
        if (op != 13) {
            bench.isSpec(what, Bench.CR, 0x12345678);
        }
    }

    private void immediates() {
        immediate(7, 7, -3, -21, true, true);
        immediate(7, 65536, 32767, 32767 << 16, false, false);
        immediate(7, MIN, -1, MIN, false, false);
        immediate(7, -1, -32768, 32768, false, false);
        immediate(8, 3, 10, 7, false, true);
        immediate(8, 10, 3, -7, true, false);
        immediate(8, 3, 3, 0, false, true);
        immediate(8, 0, 0, 0, false, true);
        immediate(8, 5, -1, -6, false, true);
        immediate(8, -1, -2, -1, true, false);
        for (int op = 12; op <= 13; op++) {
            immediate(op, 3, 4, 7, true, false);
            immediate(op, -1, 1, 0, false, true);
            immediate(op, 1, -1, 0, false, true);
            immediate(op, 0, -1, -1, true, false);
            immediate(op, MAX, 1, MIN, true, false);
            immediate(op, MIN, -32768, MAX - 32767, false, true);
        }
        immediate(14, 5, -6, -1, false, false);
        immediate(14, -1, 1, 0, false, false);
        immediate(14, MAX, 32767, MIN + 32766, true, true);
        immediate(15, 5, 1, 65541, false, false);
        immediate(15, 5, -1, -65531, true, true);
        immediate(15, MIN, -32768, 0, false, false);
        zeroBase();
    }

    /** Only OP 14 and 15 take A 0 for the number 0. */
    private void zeroBase() {
        Bench bench = new Bench(check).reg(0, 100);
        bench.run(0, Code.imm(14, 3, 0, 5)).isReg("OP 14 with A 0", 3, 5);
        bench.run(0, Code.imm(15, 3, 0, 5)).isReg("OP 15 with A 0", 3, 5 << 16);
        bench.run(0, Code.imm(7, 3, 0, 5)).isReg("OP 7 with A 0", 3, 500);
        bench.run(0, Code.imm(8, 3, 0, 5)).isReg("OP 8 with A 0", 3, -95);
        bench.run(0, Code.imm(12, 3, 0, 5)).isReg("OP 12 with A 0", 3, 105);
        bench.run(0, Code.imm(13, 3, 0, 5)).isReg("OP 13 with A 0", 3, 105);
        bench.run(0, Code.imm(14, 0, 0, 5)).isReg("D 0", 0, 5);
    }

    /** OP 31 with D 3, A 4 and B 5, without and with bit 0. */
    private void extended(int x, int a, int b, int want, boolean before, boolean after) {
        for (int bit = 0; bit < 2; bit++) {
            String what = "X " + x + " of " + a + " and " + b + (bit == 1 ? " recorded" : "");
            Bench bench = new Bench(check).reg(4, a).reg(5, b).spec(Bench.CR, -1);
            bench.spec(Bench.XER, before ? Bench.CA | 5 : 5).run(0, Code.ext(x, 3, 4, 5) | bit);
            bench.isReg(what, 3, want).isReg(what, 4, a).isReg(what, 5, b).isSpec(what, Bench.PC, 4);
            bench.isSpec(what, Bench.XER, after ? Bench.CA | 5 : 5);
            int field = want < 0 ? LESS : want > 0 ? GREATER : EQUAL;
            bench.isSpec(what, Bench.CR, bit == 0 ? -1 : field | 0x0FFFFFFF);
        }
    }

    private void sums() {
        extended(266, 2, 3, 5, true, true);
        extended(266, -1, 1, 0, false, false);
        extended(266, MAX, 1, MIN, false, false);
        extended(40, 2, 3, 1, false, false);
        extended(40, 3, 2, -1, true, true);
        extended(40, MIN, 0, MIN, false, false);
        extended(10, 2, 3, 5, true, false);
        extended(10, -1, 1, 0, false, true);
        extended(10, MIN, MIN, 0, false, true);
        extended(10, MAX, MAX, -2, true, false);
        extended(8, 2, 3, 1, false, true);
        extended(8, 3, 2, -1, true, false);
        extended(8, 2, 2, 0, false, true);
        extended(8, 0, 0, 0, false, true);
        extended(8, -1, 0, 1, true, false);
        extended(8, 0, -1, -1, false, true);
        extended(138, 2, 3, 5, false, false);
        extended(138, 2, 3, 6, true, false);
        extended(138, -1, 0, -1, false, false);
        extended(138, -1, 0, 0, true, true);
        extended(138, -1, -1, -1, true, true);
        extended(138, -1, -1, -2, false, true);
        extended(136, 2, 3, 1, true, true);
        extended(136, 2, 3, 0, false, true);
        extended(136, 3, 2, -2, false, false);
        extended(136, 3, 3, 0, true, true);
        extended(136, 3, 3, -1, false, false);
        extended(136, 0, -1, -1, true, true);
        extended(104, 5, 99, -5, true, true);
        extended(104, 0, 99, 0, false, false);
        extended(104, MIN, 99, MIN, false, false);
    }

    private void products() {
        extended(235, 7, -3, -21, true, true);
        extended(235, 65536, 65536, 0, false, false);
        extended(235, MIN, -1, MIN, false, false);
        extended(235, 0x12345678, 0x9ABCDEF, 0x12345678 * 0x9ABCDEF, false, false);
        extended(75, 65536, 65536, 1, false, false);
        extended(75, -1, 1, -1, true, true);
        extended(75, -1, -1, 0, false, false);
        extended(75, MIN, MIN, 1 << 30, false, false);
        extended(75, MIN, MAX, -(1 << 30), false, false);
        extended(11, 65536, 65536, 1, false, false);
        extended(11, -1, 1, 0, true, true);
        extended(11, -1, -1, -2, false, false);
        extended(11, MIN, MIN, 1 << 30, false, false);
        extended(11, MIN, -1, MAX, false, false);
    }

    private void quotients() {
        extended(491, 7, 2, 3, true, true);
        extended(491, -7, 2, -3, false, false);
        extended(491, 7, -2, -3, false, false);
        extended(491, -7, -2, 3, false, false);
        extended(491, 7, 0, 0, false, false);
        extended(491, 0, 0, 0, false, false);
        extended(491, MIN, 0, 0, false, false);
        extended(491, MIN, -1, 0, false, false);
        extended(491, MIN, 1, MIN, false, false);
        extended(491, MIN + 1, -1, MAX, false, false);
        extended(491, 5, -1, -5, false, false);
        extended(459, 7, 2, 3, true, true);
        extended(459, -1, 2, MAX, false, false);
        extended(459, 7, -2, 0, false, false);
        extended(459, -1, -1, 1, false, false);
        extended(459, MIN, -1, 0, false, false);
        extended(459, -1, 1, -1, false, false);
        extended(459, -7, 0, 0, false, false);
    }

    private void recording() {
        int[] results = {-1, 1, 0, MIN, MAX};
        int[] fields = {LESS, GREATER, EQUAL, LESS, GREATER};
        for (int k = 0; k < results.length; k++) {
            String what = "recorded " + results[k];
            Bench bench = new Bench(check).reg(4, results[k]).spec(Bench.CR, 0x0ABCDEF1);
            bench.run(0, Code.imm(13, 3, 4, 0)).isSpec(what, Bench.CR, fields[k] | 0x0ABCDEF1);
            bench.spec(Bench.XER, Bench.SO).run(0, Code.imm(13, 3, 4, 0));
            bench.isSpec(what + " with SO", Bench.CR, fields[k] | 0x1ABCDEF1);
            bench.isSpec(what + " with SO", Bench.XER, Bench.SO);
            bench.spec(Bench.XER, ~Bench.SO).run(0, Code.imm(13, 3, 4, 0));
            bench.isSpec(what + " without SO", Bench.CR, fields[k] | 0x0ABCDEF1);
            bench.spec(Bench.CR, 7).run(0, Code.imm(12, 3, 4, 1)).isSpec("OP 12 records nothing", Bench.CR, 7);
            bench.run(0, Code.imm(14, 3, 4, 1)).isSpec("OP 14 records nothing", Bench.CR, 7);
        }
    }

    private void overflowFormsAreNotListed() {
        for (int x : new int[] {266, 40, 10, 8, 138, 136, 104, 235, 491, 459, 75, 11}) {
            Bench bench = new Bench(check).reg(4, 6).reg(5, 3).fail(0, Code.dot(x + 512, 3, 4, 5));
            bench.isException("X " + (x + 512), 1792, 0, Bench.NOT_LISTED).isReg("X " + (x + 512), 3, 0);
            bench.isSpec("X " + (x + 512), Bench.CR, 0).isSpec("X " + (x + 512), Bench.XER, 0);
        }
    }
}
