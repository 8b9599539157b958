/** Promise 8: the instructions that work on bits, rotate and shift. */
public final class LogicTest {
    private static final int MIN = Integer.MIN_VALUE;
    private static final int D = 0x8765F00F;
    private static final int B = 0x0FF0AAAA;

    private final Check check = new Check();

    public static void main(String[] args) {
        LogicTest test = new LogicTest();
        test.immediates();
        test.pairs();
        test.singles();
        test.shifts();
        test.signedShifts();
        test.masks();
        test.rotations();
        test.check.end();
    }

    private static int field(int result) {
        return (result < 0 ? 8 : result > 0 ? 4 : 2) << 28;
    }

    private void immediate(int op, int d, int u, int want) {
        String what = "OP " + op + " of " + d + " and " + u;
        boolean recorded = op >= 28;
        Bench bench = new Bench(check).reg(3, d).reg(4, 99).spec(Bench.CR, -1).spec(Bench.XER, Bench.CA);
        bench.run(0, Code.imm(op, 3, 4, u)).isReg(what, 4, want).isReg(what, 3, d).isSpec(what, Bench.PC, 4);
        bench.isSpec(what, Bench.CR, recorded ? field(want) | 0x0FFFFFFF : -1).isSpec(what, Bench.XER, Bench.CA);
    }

    private void immediates() {
        for (int u : new int[] {0, 1, 0x8001, 0xFFFF, 0x1234}) {
            for (int d : new int[] {0, -1, D, 0xFFFF, MIN}) {
                immediate(24, d, u, d | u);
                immediate(25, d, u, d | u << 16);
                immediate(26, d, u, d ^ u);
                immediate(27, d, u, d ^ u << 16);
                immediate(28, d, u, d & u);
                immediate(29, d, u, d & u << 16);
            }
        }
        immediate(24, 0, 0x8000, 0x8000);
        immediate(29, -1, 0x8000, MIN);
        Bench bench = new Bench(check).reg(3, 6).reg(0, 5);
        bench.run(0, Code.imm(24, 3, 0, 1)).isReg("A 0 is register 0", 0, 7);
    }

    /** OP 31 with D 3, A 4 and B 5, without and with bit 0. */
    private void extended(int x, int d, int b, int want, boolean before, boolean after) {
        for (int bit = 0; bit < 2; bit++) {
            String what = "X " + x + " of " + d + " and " + b + (bit == 1 ? " recorded" : "");
            Bench bench = new Bench(check).reg(3, d).reg(4, 99).reg(5, b).spec(Bench.CR, 0x05555555);
            bench.spec(Bench.XER, before ? -1 : ~Bench.CA).run(0, Code.ext(x, 3, 4, 5) | bit);
            bench.isReg(what, 4, want).isReg(what, 3, d).isReg(what, 5, b).isSpec(what, Bench.PC, 4);
            bench.isSpec(what, Bench.XER, after ? -1 : ~Bench.CA);
            bench.isSpec(what, Bench.CR, bit == 0 ? 0x05555555 : field(want) | 0x15555555);
        }
    }

    private void pairs() {
        extended(28, D, B, 0x0760A00A, true, true);
        extended(444, D, B, 0x8FF5FAAF, false, false);
        extended(316, D, B, 0x88955AA5, true, true);
        extended(60, D, B, 0x80055005, false, false);
        extended(124, D, B, 0x700A0550, true, true);
        extended(476, D, B, 0xF89F5FF5, false, false);
        extended(28, 5, 10, 0, false, false);
        extended(316, D, D, 0, false, false);
        extended(124, -1, 0, 0, false, false);
    }

    private void singles() {
        extended(26, 0, 9, 32, true, true);
        extended(26, 1, 9, 31, false, false);
        extended(26, -1, 9, 0, false, false);
        extended(26, 0x00800000, 9, 8, false, false);
        extended(954, 0x12345680, 9, -128, true, true);
        extended(954, 0x1234567F, 9, 127, false, false);
        extended(954, 0xFFFFFF00, 9, 0, false, false);
        extended(922, 0x12348000, 9, -32768, true, true);
        extended(922, 0x12347FFF, 9, 32767, false, false);
        extended(922, 0xFFFF0000, 9, 0, false, false);
    }

    private void shifts() {
        extended(24, D, 0, D, true, true);
        extended(24, D, 4, 0x765F00F0, false, false);
        extended(24, D, 31, MIN, false, false);
        extended(24, D, 32, 0, false, false);
        extended(24, D, 33, 0, false, false);
        extended(24, D, 63, 0, false, false);
        extended(24, D, 64, D, false, false);
        extended(24, D, 68, 0x765F00F0, false, false);
        extended(24, D, -1, 0, false, false);
        extended(536, D, 0, D, true, true);
        extended(536, D, 4, 0x08765F00, false, false);
        extended(536, D, 31, 1, false, false);
        extended(536, D, 32, 0, false, false);
        extended(536, D, 63, 0, false, false);
        extended(536, D, 64, D, false, false);
        extended(536, D, -60, 0x08765F00, false, false);
    }

    private void signedShifts() {
        extended(792, 0x40000001, 1, 0x20000000, true, false);
        extended(792, D, 0, D, true, false);
        extended(792, D, 1, 0xC3B2F807, false, true);
        extended(792, 0x80000010, 4, 0xF8000001, true, false);
        extended(792, 0x80000010, 5, 0xFC000000, false, true);
        extended(792, MIN, 31, -1, true, false);
        extended(792, MIN + 1, 31, -1, false, true);
        extended(792, MIN, 32, -1, false, true);
        extended(792, -1, 63, -1, false, true);
        extended(792, Integer.MAX_VALUE, 32, 0, true, false);
        extended(792, Integer.MAX_VALUE, 63, 0, true, false);
        extended(792, D, 64, D, true, false);
        extended(792, -16, -60, -1, true, false);
        signedShiftByConstant(-1, 0, -1, false);
        signedShiftByConstant(-1, 1, -1, true);
        signedShiftByConstant(-16, 4, -1, false);
        signedShiftByConstant(-16, 5, -1, true);
        signedShiftByConstant(MIN, 31, -1, false);
        signedShiftByConstant(MIN + 1, 31, -1, true);
        signedShiftByConstant(0x7FFFFFFF, 31, 0, false);
        signedShiftByConstant(0x7FFFFFFF, 30, 1, false);
    }

    private void signedShiftByConstant(int d, int places, int want, boolean carry) {
        for (int bit = 0; bit < 2; bit++) {
            String what = "X 824 of " + d + " by " + places;
            Bench bench = new Bench(check);
            for (int r = 0; r < 32; r++) {
                bench.reg(r, r == 3 ? d : 17);
            }
            bench.spec(Bench.XER, carry ? 1 : Bench.CA | 1).run(0, Code.ext(824, 3, 4, places) | bit);
            bench.isReg(what, 4, want).isSpec(what, Bench.XER, carry ? Bench.CA | 1 : 1);
            bench.isSpec(what, Bench.CR, bit == 0 ? 0 : field(want));
        }
    }

    private static int mask(int m, int n) {
        int mask = 0;
        for (int k = 0; k < 32; k++) {
            boolean inside = m <= n ? k >= m && k <= n : k >= m || k <= n;
            mask |= inside ? 1 << 31 - k : 0;
        }
        return mask;
    }

    private void masks() {
        for (int m = 0; m < 32; m++) {
            Bench bench = new Bench(check).reg(3, -1);
            for (int n = 0; n < 32; n++) {
                bench.run(0, Code.rotate(21, 3, 4, m, m, n)).isReg("MASK " + m + " " + n, 4, mask(m, n));
            }
        }
        check.due("MASK(31, 0)", mask(31, 0), 0x80000001);
        check.due("MASK(24, 27)", mask(24, 27), 0xF0);
    }

    private void rotations() {
        rotation(21, 8, 0, 31, 0x65F00F87, 0);
        rotation(21, 0, 0, 31, D, 0);
        rotation(21, 31, 0, 31, 0xC3B2F807, 0);
        rotation(21, 8, 16, 23, 0x00000F00, 0);
        rotation(21, 8, 24, 7, 0x65000087, 0);
        rotation(21, 8, 12, 15, 0, 0);
        rotation(20, 8, 16, 23, 0x11110F11, 0x11111111);
        rotation(20, 8, 24, 7, 0x65111187, 0x11111111);
        rotation(20, 0, 0, 31, D, -1);
        rotation(23, 8, 0, 31, 0x65F00F87, 0);
        rotation(23, 31, 0, 31, 0xC3B2F807, 0);
        rotation(23, 40, 0, 31, 0x65F00F87, 0);
        rotation(23, -24, 16, 23, 0x00000F00, 0);
        rotation(23, 32, 0, 31, D, 0);
    }

    /** D 3 rotated into A 4, which holds what is told before; OP 23 takes the places from register 5. */
    private void rotation(int op, int places, int m, int n, int want, int before) {
        for (int bit = 0; bit < 2; bit++) {
            String what = "OP " + op + " by " + places + " mask " + m + " " + n;
            Bench bench = new Bench(check).reg(3, D).reg(4, before).reg(5, op == 23 ? places : 77);
            bench.spec(Bench.XER, -1).spec(Bench.CR, 0x0FFFFFFF);
            bench.run(0, Code.rotate(op, 3, 4, op == 23 ? 5 : places, m, n) | bit);
            bench.isReg(what, 4, want).isReg(what, 3, D).isSpec(what, Bench.XER, -1);
            bench.isSpec(what, Bench.CR, bit == 0 ? 0x0FFFFFFF : field(want) | 0x1FFFFFFF);
        }
    }
}
