/** The edges of the instructions on bits, rotations and shifts: a method for each sentence that names one. */
public final class BitEdgesTest {
    private static final int MIN = Integer.MIN_VALUE;
    private static final int MAX = Integer.MAX_VALUE;
    private static final int MIXED = 0x87654321;
    private static final int[] VALUES = {0, 1, MAX, MIN, MIN + 1, -1, MIXED};

    private final Check check = new Check();

    public static void main(String[] args) {
        BitEdgesTest test = new BitEdgesTest();
        test.maskFromTo();
        test.maskAround();
        test.maskOfAllAndOne();
        test.rotated();
        test.rotatedByRegister();
        test.inserted();
        test.constants();
        test.constantsRecorded();
        test.pairs();
        test.shiftsUp();
        test.shiftsDown();
        test.signedShiftsByRegister();
        test.signedShiftsByConstant();
        test.leadingZeros();
        test.signOfByte();
        test.signOfHalfWord();
        test.sameRegisters();
        test.check.end();
    }

    private Twins twins(String what) {
        return new Twins(check, what);
    }

    /** OP 31 with D 3, A 4, B 5, without and with bit 0; CA is looked at by dueCarry where it changes. */
    private void extended(int x, int d, int b, int want) {
        for (int bit = 0; bit < 2; bit++) {
            Twins twins = twins("X " + x + " of " + d + " and " + b).reg(3, d).reg(5, b).spec(Bench.XER, -1);
            twins.run(Code.ext(x, 3, 4, 5) | bit).dueReg(4, want);
            if (bit == 1) {
                twins.dueRecord(want);
            }
            twins.same();
        }
    }

    /** The bits n1 .. n2, counted from the highest, which is 0. */
    private static int bits(int n1, int n2) {
        int bits = 0;
        for (int n = n1; n <= n2; n++) {
            bits |= 1 << 31 - n;
        }
        return bits;
    }

    private void mask(int m, int n, int want) {
        Twins all = twins("MASK " + m + " " + n).reg(3, -1).run(Code.rotate(21, 3, 4, 0, m, n));
        all.dueReg(4, want).same();
    }

    /** "MASK(m, n) has the bits 31 - m down to 31 - n (m <= n)". */
    private void maskFromTo() {
        for (int m : new int[] {0, 1, 15, 16, 30, 31}) {
            for (int n : new int[] {0, 1, 15, 16, 30, 31}) {
                if (m <= n) {
                    mask(m, n, bits(m, n));
                }
            }
        }
    }

    /** "(m > n: the bits 31 - m down to 0 and 31 down to 31 - n)". */
    private void maskAround() {
        for (int m : new int[] {1, 2, 15, 16, 17, 30, 31}) {
            for (int n : new int[] {0, 1, 14, 15, 16, 29, 30}) {
                if (m > n) {
                    mask(m, n, bits(m, 31) | bits(0, n));
                }
            }
        }
    }

    /** All bits, also where nothing lies strictly between, and a single one. */
    private void maskOfAllAndOne() {
        mask(0, 31, -1);
        mask(16, 15, -1);
        mask(1, 0, -1);
        mask(31, 30, -1);
        mask(0, 0, MIN);
        mask(31, 31, 1);
        mask(31, 0, MIN + 1);
        mask(2, 0, ~(1 << 30));
        mask(31, 29, ~2);
    }

    private static int turned(int v, int places) {
        return (int) ((v & 0xFFFFFFFFL) << places | (v & 0xFFFFFFFFL) >> 32 - places);
    }

    /** "ROTATED: d's bits moved up by so many places, those that leave coming in below." by 0 to 31. */
    private void rotated() {
        for (int places = 0; places < 32; places++) {
            for (int bit = 0; bit < 2; bit++) {
                int want = turned(MIXED, places);
                Twins twins = twins("21 by " + places).reg(3, MIXED).run(Code.rotate(21, 3, 4, places, 0, 31) | bit);
                twins.dueReg(4, want);
                if (bit == 1) {
                    twins.dueRecord(want);
                }
                twins.same();
            }
        }
        twins("the highest comes in below").reg(3, MIN).run(Code.rotate(21, 3, 4, 1, 0, 31)).dueReg(4, 1).same();
        twins("the lowest goes up").reg(3, 1).run(Code.rotate(21, 3, 4, 31, 0, 31)).dueReg(4, MIN).same();
        twins("recorded 0").reg(3, 1).run(Code.rotate(21, 3, 4, 0, 0, 30) | 1).dueReg(4, 0).dueRecord(0).same();
    }

    /** "(23: by b & 31)". */
    private void rotatedByRegister() {
        for (int b : new int[] {0, 1, 31, 32, 33, 63, 64, MIN, MAX, -1, -32}) {
            int want = turned(MIXED, b & 31);
            twins("23 by " + b).reg(3, MIXED).reg(5, b).run(Code.rotate(23, 3, 4, 5, 0, 31)).dueReg(4, want).same();
            twins("23 . by " + b).reg(3, MIXED).reg(5, b).run(Code.rotate(23, 3, 4, 5, 8, 3) | 1)
                    .dueReg(4, want & 0xF0FFFFFF).dueRecord(want & 0xF0FFFFFF).same();
        }
    }

    /** "20: a keeps its bits where MASK has 0, and gets those of rotated where it has 1 ." */
    private void inserted() {
        for (int a : new int[] {0, -1, MIXED}) {
            for (int d : new int[] {0, -1, ~MIXED}) {
                for (int places : new int[] {0, 1, 31}) {
                    int rotated = turned(d, places);
                    inserted(a, d, places, 0, 31, rotated);
                    inserted(a, d, places, 0, 0, a & MAX | rotated & MIN);
                    inserted(a, d, places, 31, 31, a & ~1 | rotated & 1);
                    inserted(a, d, places, 8, 23, a & 0xFF0000FF | rotated & 0x00FFFF00);
                    inserted(a, d, places, 24, 7, a & 0x00FFFF00 | rotated & 0xFF0000FF);
                }
            }
        }
    }

    private void inserted(int a, int d, int places, int m, int n, int want) {
        String what = "20 of " + a + " and " + d + " by " + places + " mask " + m + " " + n;
        twins(what).reg(3, d).reg(4, a).run(Code.rotate(20, 3, 4, places, m, n)).dueReg(4, want).same();
        twins(what + " .").reg(3, d).reg(4, a).run(Code.rotate(20, 3, 4, places, m, n) | 1).dueReg(4, want)
                .dueRecord(want).same();
    }

    /** "24, 25: a = d | U, d | U << 16. 26, 27: a = d ^ U, d ^ U << 16.": nothing recorded, also with an odd U. */
    private void constants() {
        for (int d : VALUES) {
            for (int u : new int[] {0, 1, 32767, 32768, 65535}) {
                twins("24 of " + d + " and " + u).reg(3, d).run(Code.imm(24, 3, 4, u)).dueReg(4, d | u).same();
                twins("25 of " + d + " and " + u).reg(3, d).run(Code.imm(25, 3, 4, u)).dueReg(4, d | u * 65536).same();
                twins("26 of " + d + " and " + u).reg(3, d).run(Code.imm(26, 3, 4, u)).dueReg(4, d ^ u).same();
                twins("27 of " + d + " and " + u).reg(3, d).run(Code.imm(27, 3, 4, u)).dueReg(4, d ^ u * 65536).same();
            }
        }
    }

    /** "28, 29: a = d & U, d & U << 16, recorded.": also with an even U. */
    private void constantsRecorded() {
        for (int d : VALUES) {
            for (int u : new int[] {0, 1, 32767, 32768, 65535}) {
                int high = d & u * 65536;
                twins("28 of " + d + " and " + u).reg(3, d).run(Code.imm(28, 3, 4, u)).dueReg(4, d & u)
                        .dueRecord(d & u).same();
                twins("29 of " + d + " and " + u).reg(3, d).run(Code.imm(29, 3, 4, u)).dueReg(4, high)
                        .dueRecord(high).same();
            }
        }
    }

    /** "X 28, 444, 316, 60, 124, 476: a = d & b, d | b, d ^ b, d & ~b, ~(d | b), ~(d & b) ." */
    private void pairs() {
        for (int d : VALUES) {
            for (int b : VALUES) {
                extended(28, d, b, d & b);
                extended(444, d, b, d | b);
                extended(316, d, b, d ^ b);
                extended(60, d, b, d & ~b);
                extended(124, d, b, ~(d | b));
                extended(476, d, b, ~(d & b));
            }
        }
    }

    /** "X 24 ...: a = d << n, 0 if n > 31, with n = b & 63 ." */
    private void shiftsUp() {
        for (int d : VALUES) {
            for (int n = 0; n < 64; n += n < 30 || n > 33 && n < 62 ? 10 : 1) {
                int want = n > 31 ? 0 : (int) ((long) d << n);
                extended(24, d, n, want);
                extended(24, d, n + 64, want);
                extended(24, d, n | 0xFFFFFFC0, want);
            }
        }
        extended(24, -1, 31, MIN);
        extended(24, -1, 32, 0);
        extended(24, -1, 63, 0);
        extended(24, -1, 64, -1);
    }

    /** "536: a = d >>> n, 0 if n > 31". */
    private void shiftsDown() {
        for (int d : VALUES) {
            for (int n = 0; n < 64; n += n < 30 || n > 33 && n < 62 ? 10 : 1) {
                int want = n > 31 ? 0 : (int) ((d & 0xFFFFFFFFL) >> n);
                extended(536, d, n, want);
                extended(536, d, n + 64, want);
                extended(536, d, n | 0xFFFFFFC0, want);
            }
        }
        extended(536, -1, 31, 1);
        extended(536, -1, 32, 0);
        extended(536, -1, 63, 0);
        extended(536, -1, 64, -1);
    }

    /** Whether one of the bits that a shift by n pushes out is 1. */
    private static boolean leaves(int d, int n) {
        for (int bit = 0; bit < n && bit < 32; bit++) {
            if ((d >> bit & 1) == 1) {
                return true;
            }
        }
        return false;
    }

    private void signedShift(int x, int d, int b, int n) {
        int want = (int) ((long) d >> n);
        for (int bit = 0; bit < 2; bit++) {
            for (int xer : new int[] {-1, ~Bench.CA}) {
                Twins twins = twins("X " + x + " of " + d + " by " + b).reg(3, d).spec(Bench.XER, xer);
                if (x == 792) {
                    twins.reg(5, b);
                }
                twins.run(Code.ext(x, 3, 4, x == 792 ? 5 : n) | bit).dueReg(4, want).dueCarry(d < 0 && leaves(d, n));
                if (bit == 1) {
                    twins.dueRecord(want);
                }
                twins.same();
            }
        }
    }

    /** "a = d >> n (n > 31: all bits the sign), n = b & 63 ..., and CA becomes 1 if d < 0 and a 1 left below". */
    private void signedShiftsByRegister() {
        for (int d : new int[] {0, 1, MAX, MIN, MIN + 1, -1, -2, MIXED}) {
            for (int n : new int[] {0, 1, 30, 31, 32, 33, 62, 63}) {
                signedShift(792, d, n, n);
                signedShift(792, d, n + 64, n);
                signedShift(792, d, n | 0xFFFFFFC0, n);
            }
        }
    }

    /** "824: n = ... B": no register, and from 0 to 31. */
    private void signedShiftsByConstant() {
        for (int d : new int[] {0, 1, MAX, MIN, MIN + 1, -1, -2, MIXED}) {
            for (int n : new int[] {0, 1, 2, 5, 16, 30, 31}) {
                signedShift(824, d, n, n);
            }
        }
    }

    /** "X 26: a = number of leading zeros of d .": from 0 to 32. */
    private void leadingZeros() {
        extended(26, 0, 7, 32);
        for (int zeros = 0; zeros < 32; zeros++) {
            extended(26, MIN >>> zeros, 7, zeros);
            extended(26, -1 >>> zeros, 7, zeros);
        }
    }

    /** "X 954 ...: a = the lowest 8 ... bits of d with their sign ." */
    private void signOfByte() {
        int[] low = {0, 1, 127, 128, 129, 255};
        int[] want = {0, 1, 127, -128, -127, -1};
        for (int k = 0; k < low.length; k++) {
            for (int high : new int[] {0, 0xFFFFFF00, 0x12345600, 256}) {
                extended(954, high | low[k], 7, want[k]);
            }
        }
    }

    /** "922: ... or 16, bits of d with their sign ." */
    private void signOfHalfWord() {
        int[] low = {0, 1, 128, 32767, 32768, 32769, 65535};
        int[] want = {0, 1, 128, 32767, -32768, -32767, -1};
        for (int k = 0; k < low.length; k++) {
            for (int high : new int[] {0, 0xFFFF0000, 0x12340000, 65536}) {
                extended(922, high | low[k], 7, want[k]);
            }
        }
    }

    /** D, A and B that are one register: its old value counts. */
    private void sameRegisters() {
        twins("316").reg(4, 5).run(Code.dot(316, 4, 4, 4)).dueReg(4, 0).dueRecord(0).same();
        twins("124").reg(4, 5).run(Code.dot(124, 4, 4, 4)).dueReg(4, -6).dueRecord(-6).same();
        twins("24").reg(4, 5).run(Code.dot(24, 4, 4, 4)).dueReg(4, 160).dueRecord(160).same();
        twins("792").reg(4, -60).run(Code.dot(792, 4, 4, 4)).dueReg(4, -4).dueCarry(true).dueRecord(-4).same();
        twins("20").reg(4, 0x1234).run(Code.rotate(20, 4, 4, 16, 0, 15)).dueReg(4, 0x12341234).same();
        twins("23").reg(4, 0x1004).run(Code.rotate(23, 4, 4, 4, 0, 31)).dueReg(4, 0x10040).same();
        twins("28").reg(4, 0x1234).run(Code.imm(28, 4, 4, 0xFF)).dueReg(4, 0x34).dueRecord(0x34).same();
    }
}
