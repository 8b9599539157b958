/** The edges of the instructions that compare or trap: a method for each sentence that names one. */
public final class CompareEdgesTest {
    private static final int MIN = Integer.MIN_VALUE;
    private static final int MAX = Integer.MAX_VALUE;

    private final Check check = new Check();

    public static void main(String[] args) {
        CompareEdgesTest test = new CompareEdgesTest();
        test.trapsByEachBit();
        test.trapsUnsignedWithSign();
        test.trapsByRegister();
        test.noTrapWithoutBits();
        test.comparesUnsignedConstant();
        test.comparesConstant();
        test.comparesIntoFieldOfD();
        test.comparesRegisters();
        test.check.end();
    }

    private Twins twins(String what) {
        return new Twins(check, what);
    }

    /** One bit of D alone: traps when the third argument tells so. */
    private void trap(int d, int x, int y, boolean traps) {
        String what = "D " + d + " of " + x + " and " + y;
        Twins byRegister = twins("X 4 " + what).reg(4, x).reg(5, y);
        if (traps) {
            byRegister.fail(Code.ext(4, d, 4, 5), 1792, 1 << 17).same();
        } else {
            byRegister.run(Code.ext(4, d, 4, 5)).same();
        }
        if (y >= -32768 && y <= 32767) {
            Twins byConstant = twins("3 " + what).reg(4, x);
            if (traps) {
                byConstant.fail(Code.imm(3, d, 4, y), 1792, 1 << 17).same();
            } else {
                byConstant.run(Code.imm(3, d, 4, y)).same();
            }
        }
    }

    /** "traps if (D & 16 and a < S) or (D & 8 and a > S) or (D & 4 and a = S) or (D & 2 ...) or (D & 1 ...)". */
    private void trapsByEachBit() {
        int[] edges = {-32768, -1, 0, 1, 32767};
        for (int y : edges) {
            for (int by = -1; by <= 1; by++) {
                int x = y + by;
                trap(16, x, y, by < 0);
                trap(8, x, y, by > 0);
                trap(4, x, y, by == 0);
                trap(2, x, y, Integer.compareUnsigned(x, y) < 0);
                trap(1, x, y, Integer.compareUnsigned(x, y) > 0);
            }
        }
    }

    /** "a < S unsigned": S with its sign, so that -1 is the greatest number. */
    private void trapsUnsignedWithSign() {
        trap(2, 65535, -1, true);
        trap(1, 65536, -1, false);
        trap(2, -2, -1, true);
        trap(1, -1, -1, false);
        trap(2, -1, -1, false);
        trap(1, -1, 0, true);
        trap(16, -1, 0, true);
        trap(2, -1, 0, false);
        trap(8, 0, -1, true);
        trap(2, 0, -1, true);
        trap(1, 0, -32768, false);
        trap(1, -32767, -32768, true);
    }

    /** "X 4: traps as OP 3 does, with b for S." */
    private void trapsByRegister() {
        trap(16, MIN, MAX, true);
        trap(8, MAX, MIN, true);
        trap(2, MAX, MIN, true);
        trap(1, MIN, MAX, true);
        trap(16, MAX, MIN, false);
        trap(8, MIN, MAX, false);
        trap(2, MIN, MAX, false);
        trap(1, MAX, MIN, false);
        trap(4, MIN, MIN, true);
        trap(27, MAX, MAX, false);
        trap(4, MAX, MIN, false);
    }

    /** No bit of D, and all of them. */
    private void noTrapWithoutBits() {
        for (int x : new int[] {-1, 0, 1}) {
            trap(0, x, 0, false);
            trap(31, x, 0, true);
        }
    }

    private void compare(String what, int instruction, int a, int b, int order) {
        twins(what).reg(4, a).reg(5, b).run(instruction).dueSpec(Bench.CR, order << 28 | 0x0A5A5A5A).same();
    }

    /** "10: compares a and U unsigned into field D >> 2". */
    private void comparesUnsignedConstant() {
        for (int u : new int[] {0, 1, 32767, 32768, 65535}) {
            compare("10 equal " + u, Code.imm(10, 0, 4, u), u, 0, 2);
            compare("10 one more than " + u, Code.imm(10, 0, 4, u), u + 1, 0, 4);
            compare("10 one less than " + u, Code.imm(10, 0, 4, u), u - 1, 0, u == 0 ? 4 : 8);
            compare("10 the greatest and " + u, Code.imm(10, 0, 4, u), -1, 0, 4);
            compare("10 MIN and " + u, Code.imm(10, 0, 4, u), MIN, 0, 4);
        }
    }

    /** "11: compares a and S into it." */
    private void comparesConstant() {
        for (int s : new int[] {-32768, -1, 0, 1, 32767}) {
            compare("11 equal " + s, Code.imm(11, 0, 4, s), s, 0, 2);
            compare("11 one more than " + s, Code.imm(11, 0, 4, s), s + 1, 0, 4);
            compare("11 one less than " + s, Code.imm(11, 0, 4, s), s - 1, 0, 8);
            compare("11 MIN and " + s, Code.imm(11, 0, 4, s), MIN, 0, 8);
            compare("11 MAX and " + s, Code.imm(11, 0, 4, s), MAX, 0, 4);
        }
        compare("11 65535 and -1", Code.imm(11, 0, 4, 65535), 65535, 0, 4);
    }

    /** "into field D >> 2": from the first to the last, whatever the lowest two bits of D are. */
    private void comparesIntoFieldOfD() {
        int[] words = {Code.imm(10, 0, 4, 7), Code.imm(11, 0, 4, 7), Code.ext(0, 0, 4, 5), Code.ext(32, 0, 4, 5)};
        for (int d = 0; d < 32; d++) {
            int shift = 28 - 4 * (d >> 2);
            for (int word : words) {
                twins("D " + d + " of " + Integer.toHexString(word)).reg(4, 7).reg(5, 7).spec(Bench.XER, 1 << 31)
                        .spec(Bench.CR, 0xCCCCCCCC).run(word | d << 21)
                        .dueSpec(Bench.CR, 0xCCCCCCCC & ~(15 << shift) | 3 << shift).same();
            }
        }
    }

    /** "31, X 0: compares a and b into field D >> 2, X 32: unsigned." */
    private void comparesRegisters() {
        compare("X 0 MIN and MAX", Code.ext(0, 0, 4, 5), MIN, MAX, 8);
        compare("X 32 MIN and MAX", Code.ext(32, 0, 4, 5), MIN, MAX, 4);
        compare("X 0 MAX and MIN", Code.ext(0, 0, 4, 5), MAX, MIN, 4);
        compare("X 32 MAX and MIN", Code.ext(32, 0, 4, 5), MAX, MIN, 8);
        compare("X 0 -1 and 0", Code.ext(0, 0, 4, 5), -1, 0, 8);
        compare("X 32 -1 and 0", Code.ext(32, 0, 4, 5), -1, 0, 4);
        compare("X 0 MIN and MIN", Code.dot(0, 0, 4, 5), MIN, MIN, 2);
        compare("X 32 -1 and -1", Code.dot(32, 0, 4, 5), -1, -1, 2);
    }
}
