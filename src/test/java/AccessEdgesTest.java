/** The edges of the instructions that load and store: a method for each sentence that names one. */
public final class AccessEdgesTest {
    private static final int DATA = 0x8182FFFE;
    private static final int VALUE = 0x99AABBCC;

    private final Check check = new Check();

    public static void main(String[] args) {
        AccessEdgesTest test = new AccessEdgesTest();
        test.loadsOfWords();
        test.loadsOfBytes();
        test.loadsOfHalfWords();
        test.storesOfWords();
        test.storesOfBytes();
        test.storesOfHalfWords();
        test.indexedAccesses();
        test.addressesThatWrap();
        test.updatesAtLast();
        test.updatesNotDone();
        test.updatesWithRegisterZero();
        test.updatesWithEqualRegisters();
        test.storesOfTheirOwnBase();
        test.loadsIntoTheirOwnBase();
        test.notListedBeforeAligned();
        test.storeOverTheNextInstruction();
        test.storeOverItself();
        test.check.end();
    }

    private Twins twins(String what) {
        return new Twins(check, what).mem(0x1000, DATA).reg(3, VALUE).reg(4, 0x1004);
    }

    /** "32, 33: d = word at a0 + S". */
    private void loadsOfWords() {
        twins("32").run(Code.imm(32, 3, 4, -4)).dueReg(3, DATA).same();
        twins("33").run(Code.imm(33, 3, 4, -4)).dueReg(3, DATA).dueReg(4, 0x1000).same();
        twins("32 by the least S").reg(4, 0x9000).run(Code.imm(32, 3, 4, -32768)).dueReg(3, DATA).same();
        twins("32 by the greatest S").reg(4, 0x1000 - 32767).run(Code.imm(32, 3, 4, 32767)).dueReg(3, DATA).same();
        twins("33 by the least S").reg(4, 0x9000).run(Code.imm(33, 3, 4, -32768)).dueReg(3, DATA)
                .dueReg(4, 0x1000).same();
    }

    /** "34, 35: byte": without a sign, each of the four. */
    private void loadsOfBytes() {
        int[] bytes = {0x81, 0x82, 0xFF, 0xFE};
        for (int k = 0; k < 4; k++) {
            twins("34 of byte " + k).run(Code.imm(34, 3, 4, k - 4)).dueReg(3, bytes[k]).same();
            twins("35 of byte " + k).run(Code.imm(35, 3, 4, k - 4)).dueReg(3, bytes[k]).dueReg(4, 0x1000 + k).same();
        }
    }

    /** "40: half word; 42: half word with its sign." */
    private void loadsOfHalfWords() {
        for (int half : new int[] {0, 1, 0x7FFF, 0x8000, 0xFFFF}) {
            int signed = half < 0x8000 ? half : half - 0x10000;
            twins("40 upper").mem(0x1000, half << 16).run(Code.imm(40, 3, 4, -4)).dueReg(3, half).same();
            twins("40 lower").mem(0x1000, half).run(Code.imm(40, 3, 4, -2)).dueReg(3, half).same();
            twins("42 upper").mem(0x1000, half << 16).run(Code.imm(42, 3, 4, -4)).dueReg(3, signed).same();
            twins("42 lower").mem(0x1000, half).run(Code.imm(42, 3, 4, -2)).dueReg(3, signed).same();
        }
    }

    /** "36, 37: word at a0 + S = d". */
    private void storesOfWords() {
        twins("36").run(Code.imm(36, 3, 4, -4)).dueMem(0x1000, VALUE).same();
        twins("37").run(Code.imm(37, 3, 4, -4)).dueMem(0x1000, VALUE).dueReg(4, 0x1000).same();
        twins("36 to the last word").run(Code.imm(36, 3, 0, -4)).dueMem(65532, VALUE).same();
        twins("36 to the first word").run(Code.imm(36, 3, 0, 0)).dueMem(0, VALUE).same();
    }

    /** "38, 39: byte": the lowest of d, and the other three of the word stay. */
    private void storesOfBytes() {
        int[] words = {0xCC82FFFE, 0x81CCFFFE, 0x8182CCFE, 0x8182FFCC};
        for (int k = 0; k < 4; k++) {
            twins("38 of byte " + k).run(Code.imm(38, 3, 4, k - 4)).dueMem(0x1000, words[k]).same();
            twins("39 of byte " + k).run(Code.imm(39, 3, 4, k - 4)).dueMem(0x1000, words[k])
                    .dueReg(4, 0x1000 + k).same();
        }
    }

    /** "44: half word.": the lowest 16 bits of d, and the other half stays. */
    private void storesOfHalfWords() {
        twins("44 upper").run(Code.imm(44, 3, 4, -4)).dueMem(0x1000, 0xBBCCFFFE).same();
        twins("44 lower").run(Code.imm(44, 3, 4, -2)).dueMem(0x1000, 0x8182BBCC).same();
        twins("44 to the last").run(Code.imm(44, 3, 0, -2)).dueMem(65532, 0xBBCC).same();
    }

    /** "31, X 23, 87: d = word, byte at a0 + b; X 151, 215: word, byte at a0 + b = d." */
    private void indexedAccesses() {
        for (int b : new int[] {0, -4, 0x7FFFFFFC, Integer.MIN_VALUE}) {
            int a = 0x1000 - b;
            twins("X 23 by " + b).reg(4, a).reg(5, b).run(Code.ext(23, 3, 4, 5)).dueReg(3, DATA).same();
            twins("X 87 by " + b).reg(4, a + 3).reg(5, b).run(Code.ext(87, 3, 4, 5)).dueReg(3, 0xFE).same();
            twins("X 151 by " + b).reg(4, a).reg(5, b).run(Code.ext(151, 3, 4, 5)).dueMem(0x1000, VALUE).same();
            twins("X 215 by " + b).reg(4, a + 3).reg(5, b).run(Code.ext(215, 3, 4, 5))
                    .dueMem(0x1000, 0x8182FFCC).same();
        }
    }

    /** The sum a0 + S has 32 bits and wraps; of it the lowest 16 count, but all are put into a. */
    private void addressesThatWrap() {
        twins("over the top").reg(4, -4).mem(0, 7).run(Code.imm(33, 3, 4, 4)).dueReg(3, 7).dueReg(4, 0).same();
        twins("below 0").reg(4, 0).mem(-4, 7).run(Code.imm(33, 3, 4, -4)).dueReg(3, 7).dueReg(4, -4).same();
        twins("above 16 bits").reg(4, 0xFFFC).mem(0, 7).run(Code.imm(33, 3, 4, 4)).dueReg(3, 7)
                .dueReg(4, 0x10000).same();
        twins("from MAX to MIN").reg(4, 0x7FFFFFFC).mem(0, 7).run(Code.imm(33, 3, 4, 4)).dueReg(3, 7)
                .dueReg(4, Integer.MIN_VALUE).same();
        twins("a store below 0").reg(4, 0).run(Code.imm(39, 3, 4, -1)).dueMem(-4, 0xCC).dueReg(4, -1).same();
    }

    /** "33, 35, 37, 39 also put the address into a, at last": the one before it is translated. */
    private void updatesAtLast() {
        for (int op : new int[] {33, 35, 37, 39}) {
            Twins twins = twins("mapped " + op).spec(Bench.MSR, Bench.DR).spec(24, 0x30000002).spec(25, 2);
            twins.reg(4, 0x30001004).run(Code.imm(op, 3, 4, -4)).dueReg(4, 0x30001000);
            if (op < 36) {
                twins.dueReg(3, op == 33 ? DATA : 0x81).same();
            } else {
                twins.dueMem(0x1000, op == 37 ? VALUE : 0xCC82FFFE).same();
            }
        }
        for (int op : new int[] {32, 34, 40, 42}) {
            int want = op == 32 ? DATA : op == 34 ? 0x81 : op == 40 ? 0x8182 : 0xFFFF8182;
            twins("no update by " + op).run(Code.imm(op, 3, 4, -4)).dueReg(3, want).same();
        }
    }

    /** "The instruction changes nothing else": an update that ends in an exception leaves a and d. */
    private void updatesNotDone() {
        for (int op : new int[] {33, 35, 37, 39}) {
            int dsisr = 1 << 30 | (op > 36 ? 1 << 25 : 0);
            twins("not found " + op).spec(Bench.MSR, Bench.DR).spec(32, 1 << 31).fail(Code.imm(op, 3, 4, -4), 768, 0)
                    .dueSpec(Bench.DAR, 0x1000).dueSpec(Bench.DSISR, dsisr).same();
        }
        for (int op : new int[] {33, 37}) {
            twins("not aligned " + op).fail(Code.imm(op, 3, 4, -3), 1536, 0).dueSpec(Bench.DAR, 0x1001).same();
        }
    }

    /** "(A is 0 ...: as not listed)": for all four, with any D, and while PROBLEM is 1 too. */
    private void updatesWithRegisterZero() {
        for (int op : new int[] {33, 35, 37, 39}) {
            for (int d : new int[] {0, 3, 31}) {
                for (int msr : new int[] {0, Bench.PROBLEM, Bench.DR}) {
                    twins("A 0 for " + op).reg(0, 0x1000).spec(Bench.MSR, msr).spec(32, 1 << 31)
                            .fail(Code.imm(op, d, 0, 0x1000), 1792, 1 << 19).same();
                }
            }
        }
    }

    /** "or, for 33 and 35, A is D: as not listed". */
    private void updatesWithEqualRegisters() {
        for (int r : new int[] {0, 1, 4, 31}) {
            for (int op : new int[] {33, 35}) {
                twins("A is D for " + op).reg(r, 0x1000).fail(Code.imm(op, r, r, 0), 1792, 1 << 19).same();
            }
        }
        twins("D is 0, A is not").run(Code.imm(33, 0, 4, -4)).dueReg(0, DATA).dueReg(4, 0x1000).same();
        twins("D beside A").run(Code.imm(35, 5, 4, -4)).dueReg(5, 0x81).dueReg(4, 0x1000).same();
    }

    /** For 37 and 39 A may be D: what is stored is a as it was. */
    private void storesOfTheirOwnBase() {
        twins("37 with A = D").run(Code.imm(37, 4, 4, -4)).dueMem(0x1000, 0x1004).dueReg(4, 0x1000).same();
        twins("39 with A = D").run(Code.imm(39, 4, 4, -4)).dueMem(0x1000, 0x0482FFFE).dueReg(4, 0x1000).same();
        twins("37 with A = D = 31").reg(31, 0x1004).run(Code.imm(37, 31, 31, -4)).dueMem(0x1000, 0x1004)
                .dueReg(31, 0x1000).same();
        twins("36 with A = D").run(Code.imm(36, 4, 4, -4)).dueMem(0x1000, 0x1004).same();
    }

    /** For the others A may be D: what was loaded stands in it. */
    private void loadsIntoTheirOwnBase() {
        twins("32 with A = D").run(Code.imm(32, 4, 4, -4)).dueReg(4, DATA).same();
        twins("34 with A = D").run(Code.imm(34, 4, 4, -4)).dueReg(4, 0x81).same();
        twins("42 with A = D").run(Code.imm(42, 4, 4, -4)).dueReg(4, 0xFFFF8182).same();
        twins("X 23 with A = D = B").reg(4, 0x800).run(Code.ext(23, 4, 4, 4)).dueReg(4, DATA).same();
    }

    /** What is not listed is no access, so its address is not looked at. */
    private void notListedBeforeAligned() {
        twins("A 0 and not aligned").fail(Code.imm(33, 3, 0, 0x1001), 1792, 1 << 19).same();
        twins("A is D and not aligned").reg(3, 0x1001).fail(Code.imm(33, 3, 3, 0), 1792, 1 << 19).same();
        twins("OP 41 not aligned").fail(Code.imm(41, 3, 4, 1), 1792, 1 << 19).same();
        twins("OP 45 not aligned").fail(Code.imm(45, 3, 4, 1), 1792, 1 << 19).same();
    }

    /** "takes its instructions from memory": what a step has stored, the next one does. */
    private void storeOverTheNextInstruction() {
        int add = Code.imm(14, 6, 0, 77);
        twins("the next instruction").reg(3, add).run(Code.imm(36, 3, 0, Twins.START + 4))
                .dueMem(Twins.START + 4, add).step().dueReg(6, 77).same();
    }

    private void storeOverItself() {
        twins("its own instruction").run(Code.imm(36, 3, 0, Twins.START)).dueMem(Twins.START, VALUE).same();
        int load = Code.imm(32, 6, 0, Twins.START);
        twins("its own word").run(load).dueReg(6, load).same();
    }
}
