/** The edges of the moves between general and special registers: a method for each sentence that names one. */
public final class MoveEdgesTest {
    private static final int VALUE = 0x87654321;
    private static final int[] FREE = {1, 8, 9};
    private static final int[] FREE_SPECIALS = {Bench.XER, Bench.LR, Bench.CTR};
    private static final int[] MARKED = {18, 19, 25, 26, 27};
    private static final int[] MARKED_SPECIALS = {Bench.DSISR, Bench.DAR, Bench.SDR1, Bench.SRR0, Bench.SRR1};

    private final Check check = new Check();

    public static void main(String[] args) {
        MoveEdgesTest test = new MoveEdgesTest();
        test.fromCr();
        test.toFieldsOfCr();
        test.bitsBesideTheFields();
        test.fromMsr();
        test.toMsr();
        test.toMsrOfTheNextStep();
        test.segments();
        test.cacheInstruction();
        test.freeSpecials();
        test.markedSpecials();
        test.blocks();
        test.numbersThatAreNone();
        test.numbersThatAreNoneInProblem();
        test.markedInProblem();
        test.halvesOfTheNumber();
        test.check.end();
    }

    private Twins twins(String what) {
        return new Twins(check, what);
    }

    /** "X 19: d = CR.": all its bits, and into any register. */
    private void fromCr() {
        for (int cr : new int[] {0, 1, Integer.MIN_VALUE, -1, VALUE}) {
            twins("X 19 of " + cr).spec(Bench.CR, cr).run(Code.ext(19, 0, 0, 0)).dueReg(0, cr).same();
            twins("X 19 of " + cr).spec(Bench.CR, cr).run(Code.ext(19, 31, 31, 31)).dueReg(31, cr).same();
        }
    }

    /** "X 144: the fields f of CR for which bit 19 - f of i is 1 become those of d.": none, each alone, all. */
    private void toFieldsOfCr() {
        twins("no field").reg(3, VALUE).run(Code.ext(144, 3, 0, 0)).same();
        twins("all fields").reg(3, VALUE).run(Code.ext(144, 3, 0, 0) | 255 << 12).dueSpec(Bench.CR, VALUE).same();
        for (int f = 0; f < 8; f++) {
            int field = 15 << 28 - 4 * f;
            int one = 1 << 19 - f;
            twins("field " + f + " to 1").reg(3, -1).spec(Bench.CR, 0).run(Code.ext(144, 3, 0, 0) | one)
                    .dueSpec(Bench.CR, field).same();
            twins("field " + f + " to 0").reg(3, 0).spec(Bench.CR, -1).run(Code.ext(144, 3, 0, 0) | one)
                    .dueSpec(Bench.CR, ~field).same();
            twins("all fields but " + f).reg(3, -1).spec(Bench.CR, 0)
                    .run(Code.ext(144, 3, 0, 0) | 255 << 12 & ~one).dueSpec(Bench.CR, ~field).same();
        }
    }

    /** The bits 20 and 11 beside those eight tell no field. */
    private void bitsBesideTheFields() {
        for (int beside : new int[] {1 << 20, 1 << 11, 1 << 20 | 1 << 11 | 1}) {
            twins("bits beside").reg(3, VALUE).run(Code.ext(144, 3, 0, 0) | beside).same();
        }
    }

    /** "X 83 #: d = MSR.": all its bits. */
    private void fromMsr() {
        for (int msr : new int[] {0, 1, Bench.EE, 0xFFFF0000, -1 & ~(Bench.PROBLEM | Bench.IR)}) {
            twins("X 83 of " + msr).spec(Bench.MSR, msr).run(Code.ext(83, 3, 0, 0)).dueReg(3, msr).same();
        }
    }

    /** "X 146 #: MSR = d & 65535." */
    private void toMsr() {
        for (int d : new int[] {0, 1, 65535, 65536, 0xFFFF0000, Integer.MIN_VALUE, -1}) {
            twins("X 146 of " + d).reg(3, d).run(Code.ext(146, 3, 0, 0)).dueSpec(Bench.MSR, d & 65535).same();
        }
    }

    /** The next step is the first that is made with the new MSR. */
    private void toMsrOfTheNextStep() {
        twins("IR from the next step on").reg(3, Bench.IR).spec(32, 1 << 31).run(Code.ext(146, 3, 0, 0))
                .dueSpec(Bench.MSR, Bench.IR).failStep(1024, 1 << 30).same();
        twins("PROBLEM from the next step on").reg(3, Bench.PROBLEM).mem(Twins.START + 4, Code.ext(146, 3, 0, 0))
                .run(Code.ext(146, 3, 0, 0)).dueSpec(Bench.MSR, Bench.PROBLEM).failStep(1792, 1 << 18).same();
    }

    /** "X 210 #: segment A & 15 = d. X 595 #: d = segment A & 15." */
    private void segments() {
        for (int a : new int[] {0, 1, 14, 15, 16, 17, 30, 31}) {
            twins("X 210 A " + a).reg(3, VALUE).run(Code.ext(210, 3, a, 31)).dueSpec(32 + a % 16, VALUE).same();
            twins("X 595 A " + a).spec(32 + a % 16, VALUE).run(Code.ext(595, 3, a, 31)).dueReg(3, VALUE).same();
        }
    }

    /** "X 598: nothing." */
    private void cacheInstruction() {
        for (int rest : new int[] {0, 1, 0x3FFF800, 0x3FFF801}) {
            twins("X 598").run(Code.ext(598, 0, 0, 0) | rest).same();
        }
    }

    private void special(int number, int s, int msr) {
        for (int value : new int[] {0, VALUE, -1}) {
            twins("to " + number).spec(Bench.MSR, msr).reg(3, value).run(Code.toSpecial(number, 3))
                    .dueSpec(s, value).same();
            twins("from " + number).spec(Bench.MSR, msr).spec(s, value).run(Code.fromSpecial(3, number))
                    .dueReg(3, value).same();
        }
    }

    /** "of the number B * 32 + A: 1 XER, 8 LR, 9 CTR": with PROBLEM 0 and 1. */
    private void freeSpecials() {
        for (int k = 0; k < FREE.length; k++) {
            special(FREE[k], FREE_SPECIALS[k], 0);
            special(FREE[k], FREE_SPECIALS[k], Bench.PROBLEM);
        }
    }

    /** "and #: 18 DSISR, 19 DAR, 25 SDR1, 26 SRR0, 27 SRR1". */
    private void markedSpecials() {
        for (int k = 0; k < MARKED.length; k++) {
            special(MARKED[k], MARKED_SPECIALS[k], 0);
        }
    }

    /** "528 + k the special register 16 + k (k from 0 to 15)". */
    private void blocks() {
        for (int k = 0; k < 16; k++) {
            special(528 + k, 16 + k, 0);
        }
    }

    private static boolean isNumber(int number) {
        for (int k = 0; k < MARKED.length; k++) {
            if (MARKED[k] == number || k < FREE.length && FREE[k] == number) {
                return true;
            }
        }
        return number >= 528 && number <= 543;
    }

    /** "other numbers: as not listed": each of them, those beside the listed too. */
    private void numbersThatAreNone() {
        for (int number = 0; number < 1024; number++) {
            if (!isNumber(number)) {
                unlisted(number, 0);
            }
        }
        for (int number : new int[] {0, 2, 7, 10, 17, 20, 24, 28, 527, 544, 1023}) {
            twins("to " + number).fail(Code.toSpecial(number, 3), 1792, 1 << 19).same();
            twins("from " + number).fail(Code.fromSpecial(3, number), 1792, 1 << 19).same();
        }
    }

    /** "(also while PROBLEM is 1)". */
    private void numbersThatAreNoneInProblem() {
        for (int number = 0; number < 1024; number++) {
            if (!isNumber(number)) {
                unlisted(number, Bench.PROBLEM);
            }
        }
        for (int number : new int[] {0, 2, 7, 10, 17, 20, 24, 28, 527, 544, 1023}) {
            twins("to " + number).spec(Bench.MSR, Bench.PROBLEM).fail(Code.toSpecial(number, 3), 1792, 1 << 19).same();
            twins("from " + number).spec(Bench.MSR, Bench.PROBLEM)
                    .fail(Code.fromSpecial(3, number), 1792, 1 << 19).same();
        }
    }

    private void unlisted(int number, int msr) {
        for (int word : new int[] {Code.toSpecial(number, 3), Code.fromSpecial(3, number)}) {
            MappedProcessor p = new MappedProcessor();
            p.write(0, word);
            p.set(Bench.MSR, msr);
            check.due("number " + number, p.step(1), 1);
            check.due("number " + number + " vector", p.vector(), 1792);
            check.due("number " + number + " SRR1", p.special(Bench.SRR1), 1 << 19 | msr);
        }
    }

    /** Those marked # while PROBLEM is 1, each of them: 1792 with 2^18, and nothing moved. */
    private void markedInProblem() {
        for (int number = 0; number < 1024; number++) {
            if (isNumber(number) && number > 9) {
                twins("to " + number).spec(Bench.MSR, Bench.PROBLEM).reg(3, VALUE)
                        .fail(Code.toSpecial(number, 3), 1792, 1 << 18).same();
                twins("from " + number).spec(Bench.MSR, Bench.PROBLEM)
                        .fail(Code.fromSpecial(3, number), 1792, 1 << 18).same();
            }
        }
    }

    /** "the number B * 32 + A": the halves are not the other way round. */
    private void halvesOfTheNumber() {
        twins("A 8, B 0").reg(3, VALUE).run(Code.ext(467, 3, 8, 0)).dueSpec(Bench.LR, VALUE).same();
        twins("A 0, B 8").reg(3, VALUE).fail(Code.ext(467, 3, 0, 8), 1792, 1 << 19).same();
        twins("A 16, B 16").reg(3, VALUE).run(Code.ext(467, 3, 16, 16)).dueSpec(16, VALUE).same();
        twins("A 31, B 16").reg(3, VALUE).run(Code.ext(467, 3, 31, 16)).dueSpec(31, VALUE).same();
        twins("A 16, B 17").reg(3, VALUE).fail(Code.ext(467, 3, 16, 17), 1792, 1 << 19).same();
    }
}
