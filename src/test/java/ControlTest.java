/** Promise 8: the moves between general and special registers, and what PROBLEM forbids. */
public final class ControlTest {
    /** The number in the instruction and the number of the special register, in turns. */
    private static final int[] NUMBERS = {1, 3, 8, 4, 9, 5, 18, 8, 19, 9, 25, 10, 26, 6, 27, 7};

    private final Check check = new Check();

    public static void main(String[] args) {
        ControlTest test = new ControlTest();
        test.conditionRegister();
        test.machineState();
        test.segments();
        test.nothing();
        test.specials();
        test.otherNumbers();
        test.check.end();
    }

    private void conditionRegister() {
        Bench bench = new Bench(check).spec(Bench.CR, 0x89ABCDEF).spec(Bench.MSR, Bench.PROBLEM);
        bench.run(0, Code.dot(19, 3, 31, 31)).isReg("X 19", 3, 0x89ABCDEF).isSpec("X 19", Bench.CR, 0x89ABCDEF);
        for (int fields = 0; fields < 256; fields++) {
            conditionFields(fields);
        }
    }

    private void conditionFields(int fields) {
        int mask = 0;
        for (int f = 0; f < 8; f++) {
            mask |= (fields >> 7 - f & 1) * (15 << 28 - 4 * f);
        }
        String what = "X 144 fields " + fields;
        Bench bench = new Bench(check).reg(3, 0x12345678).spec(Bench.CR, 0x89ABCDEF);
        bench.run(0, Code.ext(144, 3, 0, 0) | fields << 12 | fields & 1).isReg(what, 3, 0x12345678);
        bench.isSpec(what, Bench.CR, 0x89ABCDEF & ~mask | 0x12345678 & mask);
        bench.spec(Bench.CR, 0x89ABCDEF).run(0, Code.ext(144, 3, 0, 0) | fields << 12 | 1 << 20 | 1 << 11);
        bench.isSpec(what + " and the bits beside", Bench.CR, 0x89ABCDEF & ~mask | 0x12345678 & mask);
    }

    private void machineState() {
        int msr = 0x7FFF8F0F;
        Bench bench = new Bench(check).spec(Bench.MSR, msr).run(0, Code.dot(83, 3, 0, 0));
        bench.isReg("X 83", 3, msr).isSpec("X 83", Bench.CR, 0);
        bench.reg(3, 0xFFFF1234 & ~Bench.IR).run(0, Code.dot(146, 3, 0, 0));
        bench.isSpec("X 146", Bench.MSR, 0x1234 & ~Bench.IR).isSpec("X 146", Bench.PC, 4).isSpec("X 146", Bench.CR, 0);
        bench.spec(Bench.MSR, 0).reg(3, -1).run(0, Code.ext(146, 3, 0, 0)).isSpec("X 146 all", Bench.MSR, 65535);
        forbidden(Code.ext(83, 3, 0, 0));
        forbidden(Code.ext(146, 3, 0, 0));
        forbidden(Code.ext(210, 3, 4, 0));
        forbidden(Code.ext(595, 3, 4, 0));
    }

    /** In PROBLEM the instruction changes nothing but what the exception changes. */
    private void forbidden(int instruction) {
        String what = "forbidden " + Integer.toHexString(instruction);
        Bench bench = new Bench(check).reg(3, 0x5555AAAA);
        for (int s = 2; s < 48; s++) {
            bench.spec(s, 1000 + s);
        }
        bench.spec(Bench.MSR, Bench.PROBLEM | Bench.EE | 1).fail(64, instruction);
        bench.isException(what, 1792, 64, Bench.PRIVILEGED | Bench.PROBLEM | Bench.EE | 1);
        bench.isSpec(what, Bench.MSR, 1).isReg(what, 3, 0x5555AAAA);
        for (int s = 2; s < 48; s++) {
            boolean exists = s <= 10 || s >= 16;
            if (s != Bench.SRR0 && s != Bench.SRR1) {
                bench.isSpec(what, s, exists ? 1000 + s : 0);
            }
        }
    }

    private void segments() {
        for (int a = 0; a < 32; a++) {
            Bench bench = new Bench(check).reg(3, 0xF1234567 + a).run(0, Code.dot(210, 3, a, 31));
            for (int k = 0; k < 16; k++) {
                bench.isSpec("X 210 A " + a, 32 + k, k == (a & 15) ? 0xF1234567 + a : 0);
            }
            bench.run(0, Code.dot(595, 4, a, 31)).isReg("X 595 A " + a, 4, 0xF1234567 + a);
            bench.isSpec("X 595 A " + a, Bench.CR, 0).run(0, Code.ext(595, 5, a + 1 & 31, 0));
            bench.isReg("X 595 next to A " + a, 5, 0);
        }
    }

    private void nothing() {
        Bench bench = new Bench(check).spec(Bench.MSR, Bench.PROBLEM).reg(31, 7).spec(Bench.CR, 9);
        bench.run(256, Code.dot(598, 31, 31, 31)).isSpec("X 598", Bench.PC, 260).isReg("X 598", 31, 7);
        bench.isSpec("X 598", Bench.CR, 9);
    }

    private void specials() {
        for (int k = 0; k < NUMBERS.length; k += 2) {
            special(NUMBERS[k], NUMBERS[k + 1]);
        }
        for (int k = 0; k < 16; k++) {
            special(528 + k, 16 + k);
        }
    }

    private void special(int number, int s) {
        String what = "number " + number;
        Bench bench = new Bench(check).reg(3, 0x87654321);
        bench.run(0, Code.toSpecial(number, 3) | 1).isReg(what, 3, 0x87654321);
        for (int other = 1; other < 48; other++) {
            bench.isSpec(what + " to", other, other == s ? 0x87654321 : 0);
        }
        bench.spec(s, 0xFEDCBA98).run(0, Code.fromSpecial(4, number) | 1).isReg(what, 4, 0xFEDCBA98);
        bench.isSpec(what + " from", s, 0xFEDCBA98).isSpec(what, Bench.CR, 0);
        if (number > 9) {
            forbidden(Code.toSpecial(number, 3));
            forbidden(Code.fromSpecial(3, number));
        } else {
            bench.spec(Bench.MSR, Bench.PROBLEM).run(0, Code.toSpecial(number, 3));
            bench.isSpec(what + " to in PROBLEM", s, 0x87654321).spec(s, 5);
            bench.run(0, Code.fromSpecial(3, number)).isReg(what + " from in PROBLEM", 3, 5);
        }
    }

    private static boolean isNumber(int number) {
        for (int k = 0; k < NUMBERS.length; k += 2) {
            if (NUMBERS[k] == number) {
                return true;
            }
        }
        return number >= 528 && number < 544;
    }

    private void otherNumbers() {
        for (int number = 0; number < 1024; number++) {
            if (!isNumber(number)) {
                for (int msr : new int[] {0, Bench.PROBLEM}) {
                    Bench bench = new Bench(check).reg(3, 5);
                    bench.spec(Bench.MSR, msr).fail(0, Code.fromSpecial(3, number));
                    bench.isException("from " + number, 1792, 0, Bench.NOT_LISTED | msr);
                    bench.isReg("from " + number, 3, 5).spec(Bench.MSR, msr).fail(0, Code.toSpecial(number, 3));
                    bench.isException("to " + number, 1792, 0, Bench.NOT_LISTED | msr);
                }
            }
        }
    }
}
