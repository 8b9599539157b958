/** The edges of a step, its parts and its exceptions: a method for each sentence that names one. */
public final class ExceptionEdgesTest {
    private static final int MIN = Integer.MIN_VALUE;
    private static final int TABLE = 0x8000;
    private static final int NOT_FOUND = 1 << 30;
    private static final int NO_EXECUTE = 1 << 28;
    private static final int PROTECTION = 1 << 27;
    private static final int OF_STORE = 1 << 25;

    /** Each OP that the document lists, but for 19 and 31. */
    private static final int[] LISTED = {
        3, 7, 8, 10, 11, 12, 13, 14, 15, 16, 17, 18, 20, 21, 23, 24, 25, 26, 27, 28, 29, 32, 33, 34, 35, 36, 37,
        38, 39, 40, 42, 44
    };
    private static final int[] LISTED_19 = {16, 50, 150, 193, 257, 449, 528};
    private static final int[] LISTED_31 = {
        0, 4, 8, 10, 11, 19, 23, 24, 26, 28, 32, 40, 60, 75, 83, 87, 104, 124, 136, 138, 144, 146, 151, 210, 215,
        235, 266, 316, 339, 444, 459, 467, 476, 491, 536, 595, 598, 792, 824, 922, 954
    };

    /** The word and half word accesses, and those of bytes; 31 with an X stands as 31 * 1024 + X. */
    private static final int[] WORDS = {32, 33, 36, 37, 31 * 1024 + 23, 31 * 1024 + 151};
    private static final int[] HALVES = {40, 42, 44};
    private static final int[] BYTES = {34, 35, 38, 39, 31 * 1024 + 87, 31 * 1024 + 215};

    private final Check check = new Check();

    public static void main(String[] args) {
        ExceptionEdgesTest test = new ExceptionEdgesTest();
        test.constantsWithSign();
        test.constantsWithoutSign();
        test.zeroForRegisterZero();
        test.registerZeroElsewhere();
        test.recordedOnlyByBitZero();
        test.savedState();
        test.savedBitsAboveFifteen();
        test.exceptionInAnAnswer();
        test.fetchNotTranslated();
        test.dataNotTranslated();
        test.indexedDataNotTranslated();
        test.wordsNotAligned();
        test.halvesNotAligned();
        test.bytesAlwaysAligned();
        test.alignmentBeforeTranslation();
        test.alignmentOfTheWholeAddress();
        test.opNotListed();
        test.nineteenNotListed();
        test.thirtyOneNotListed();
        test.privileged();
        test.notPrivileged();
        test.trapBits();
        test.fetchMarkStays();
        test.dataMarkStays();
        test.exceptionIsAStep();
        test.check.end();
    }

    private Twins twins(String what) {
        return new Twins(check, what);
    }

    private static boolean has(int[] list, int wanted) {
        for (int one : list) {
            if (one == wanted) {
                return true;
            }
        }
        return false;
    }

    /** "S = the lowest 16 bits as a number from -32768 to 32767". */
    private void constantsWithSign() {
        int[] low = {0, 1, 32767, 32768, 65535};
        int[] number = {0, 1, 32767, -32768, -1};
        for (int k = 0; k < low.length; k++) {
            String what = "S of " + low[k];
            twins(what).run(Code.imm(14, 3, 0, low[k])).dueReg(3, number[k]).same();
            twins(what).run(Code.imm(15, 3, 0, low[k])).dueReg(3, number[k] * 65536).same();
            twins(what).reg(4, 3).run(Code.imm(7, 3, 4, low[k])).dueReg(3, 3 * number[k]).same();
            twins(what).reg(4, number[k]).run(Code.imm(11, 0, 4, low[k]))
                    .dueSpec(Bench.CR, 0x2A5A5A5A).same();
            twins(what).reg(4, number[k]).fail(Code.imm(3, 4, 4, low[k]), 1792, 1 << 17).same();
        }
    }

    /** "U = i & 65535": from 0 to 65535, without a sign. */
    private void constantsWithoutSign() {
        for (int u : new int[] {0, 1, 32767, 32768, 65535}) {
            twins("U of " + u).reg(3, 0).run(Code.imm(24, 3, 4, u)).dueReg(4, u).same();
            twins("U of " + u).reg(3, 0).run(Code.imm(25, 3, 4, u)).dueReg(4, u << 16).same();
            twins("U of " + u).reg(3, 0).run(Code.imm(26, 3, 4, u)).dueReg(4, u).same();
            twins("U of " + u).reg(3, 0).run(Code.imm(27, 3, 4, u)).dueReg(4, u << 16).same();
            twins("U of " + u).reg(3, -1).run(Code.imm(28, 3, 4, u)).dueReg(4, u).dueRecord(u).same();
            twins("U of " + u).reg(3, -1).run(Code.imm(29, 3, 4, u)).dueReg(4, u << 16).dueRecord(u << 16).same();
            twins("U of " + u).reg(4, u).run(Code.imm(10, 0, 4, u)).dueSpec(Bench.CR, 0x2A5A5A5A).same();
        }
    }

    /** "a0 is a, or 0 if A is 0": only r0 is left out, whatever it holds. */
    private void zeroForRegisterZero() {
        for (int r0 : new int[] {0, 64, -1}) {
            twins("14 with A 0").reg(0, r0).run(Code.imm(14, 3, 0, 5)).dueReg(3, 5).same();
            twins("15 with A 0").reg(0, r0).run(Code.imm(15, 3, 0, 5)).dueReg(3, 5 << 16).same();
            for (int op : new int[] {32, 34, 40, 42}) {
                int value = op == 32 ? 0x01020304 : op == 34 ? 1 : 0x0102;
                twins("load with A 0").reg(0, r0).mem(0x1000, 0x01020304).run(Code.imm(op, 3, 0, 0x1000))
                        .dueReg(3, value).same();
            }
            twins("store with A 0").reg(0, r0).reg(3, 9).run(Code.imm(36, 3, 0, 0x1000)).dueMem(0x1000, 9).same();
            twins("byte with A 0").reg(0, r0).reg(3, 9).run(Code.imm(38, 3, 0, 0x1003)).dueMem(0x1000, 9).same();
            twins("half word with A 0").reg(0, r0).reg(3, 9).run(Code.imm(44, 3, 0, 0x1002))
                    .dueMem(0x1000, 9).same();
            twins("X 23 with A 0").reg(0, r0).reg(5, 0x1000).mem(0x1000, 9).run(Code.ext(23, 3, 0, 5))
                    .dueReg(3, 9).same();
            twins("X 87 with A 0").reg(0, r0).reg(5, 0x1003).mem(0x1000, 9).run(Code.ext(87, 3, 0, 5))
                    .dueReg(3, 9).same();
            twins("X 151 with A 0").reg(0, r0).reg(3, 9).reg(5, 0x1000).run(Code.ext(151, 3, 0, 5))
                    .dueMem(0x1000, 9).same();
            twins("X 215 with A 0").reg(0, r0).reg(3, 9).reg(5, 0x1003).run(Code.ext(215, 3, 0, 5))
                    .dueMem(0x1000, 9).same();
        }
        twins("14 with A 31").reg(31, 7).run(Code.imm(14, 3, 31, 5)).dueReg(3, 12).same();
        twins("32 with A 1").reg(1, 0xFFC).mem(0x1000, 9).run(Code.imm(32, 3, 1, 4)).dueReg(3, 9).same();
    }

    /** Where the document says a and not a0, A 0 is register 0; and so is B 0. */
    private void registerZeroElsewhere() {
        twins("7 with A 0").reg(0, 6).run(Code.imm(7, 3, 0, 5)).dueReg(3, 30).same();
        twins("8 with A 0").reg(0, 6).run(Code.imm(8, 3, 0, 5)).dueReg(3, -1).same();
        twins("12 with A 0").reg(0, 6).run(Code.imm(12, 3, 0, 5)).dueReg(3, 11).same();
        twins("13 with A 0").reg(0, 6).run(Code.imm(13, 3, 0, 5)).dueReg(3, 11).dueRecord(11).same();
        twins("10 with A 0").reg(0, 6).run(Code.imm(10, 0, 0, 5)).dueSpec(Bench.CR, 0x4A5A5A5A).same();
        twins("11 with A 0").reg(0, 6).run(Code.imm(11, 0, 0, 5)).dueSpec(Bench.CR, 0x4A5A5A5A).same();
        twins("3 with A 0").reg(0, 6).fail(Code.imm(3, 8, 0, 5), 1792, 1 << 17).same();
        twins("X 266 with A 0").reg(0, 6).reg(5, 1).run(Code.ext(266, 3, 0, 5)).dueReg(3, 7).same();
        twins("X 104 with A 0").reg(0, 6).run(Code.ext(104, 3, 0, 5)).dueReg(3, -6).same();
        twins("X 0 with A 0").reg(0, 6).reg(5, 5).run(Code.ext(0, 0, 0, 5)).dueSpec(Bench.CR, 0x4A5A5A5A).same();
        twins("X 4 with A 0").reg(0, 6).reg(5, 6).fail(Code.ext(4, 4, 0, 5), 1792, 1 << 17).same();
        twins("X 23 with B 0").reg(0, 0x1000).reg(4, 4).mem(0x1004, 9).run(Code.ext(23, 3, 4, 0))
                .dueReg(3, 9).same();
        twins("X 23 with A 0 and B 0").reg(0, 0x1000).mem(0x1000, 9).run(Code.ext(23, 3, 0, 0)).dueReg(3, 9).same();
        twins("24 to A 0").reg(3, 6).run(Code.imm(24, 3, 0, 1)).dueReg(0, 7).same();
        twins("20 to A 0").reg(3, 6).reg(0, -1).run(Code.rotate(20, 3, 0, 0, 28, 31)).dueReg(0, 0xFFFFFFF6).same();
    }

    /** "'.' at the end: if bit 0 of i is 1 the result is recorded." */
    private void recordedOnlyByBitZero() {
        int[] toD = {266, 40, 10, 8, 138, 136, 104, 235, 75, 11, 491, 459};
        int[] sums = {0, 0, 0, 0, 0, -1, 0, 0, 0, 0, 0, 0};
        boolean[] carries = {false, false, false, true, false, false, false, false, false, false, false, false};
        for (int k = 0; k < toD.length; k++) {
            int want = sums[k];
            Twins plain = twins("X " + toD[k]).reg(4, 0).reg(5, 0).run(Code.ext(toD[k], 3, 4, 5)).dueReg(3, want);
            plain.dueCarry(carries[k]).same();
            Twins dot = twins("X " + toD[k] + " .").reg(4, 0).reg(5, 0).run(Code.dot(toD[k], 3, 4, 5));
            dot.dueReg(3, want).dueCarry(carries[k]).dueRecord(want).same();
        }
        int[] toA = {28, 444, 316, 60, 124, 476, 24, 536, 792, 824, 26, 954, 922};
        int[] bits = {0, 0, 0, 0, -1, -1, 0, 0, 0, 0, 32, 0, 0};
        for (int k = 0; k < toA.length; k++) {
            twins("X " + toA[k]).reg(3, 0).reg(5, 0).run(Code.ext(toA[k], 3, 4, 5)).dueReg(4, bits[k]).same();
            twins("X " + toA[k] + " .").reg(3, 0).reg(5, 0).run(Code.dot(toA[k], 3, 4, 5)).dueReg(4, bits[k])
                    .dueRecord(bits[k]).same();
        }
        for (int op : new int[] {20, 21, 23}) {
            twins("OP " + op).reg(3, MIN).reg(5, 0).run(Code.rotate(op, 3, 4, op == 23 ? 5 : 0, 0, 31))
                    .dueReg(4, MIN).same();
            twins("OP " + op + " .").reg(3, MIN).reg(5, 0).run(Code.rotate(op, 3, 4, op == 23 ? 5 : 0, 0, 31) | 1)
                    .dueReg(4, MIN).dueRecord(MIN).same();
        }
    }

    /** "SRR0 becomes PC (that of the instruction), SRR1 becomes (MSR & 65535) + x; PROBLEM, IR, DR and EE become 0". */
    private void savedState() {
        for (int pc : new int[] {0, 4, 65532, 0x7FFFFFFC, MIN, -4}) {
            Twins twins = twins("exception at " + pc).spec(Bench.MSR, 0xFFDF).mem(pc, 0).spec(Bench.PC, pc);
            twins.failStep(1792, 1 << 19).dueSpec(Bench.SRR0, pc).dueSpec(Bench.SRR1, 0x8FFDF);
            twins.dueSpec(Bench.MSR, 0x3FCF).same();
        }
    }

    /** "(MSR & 65535)": bits of MSR above 15 are not saved, and are not added to x. */
    private void savedBitsAboveFifteen() {
        twins("MSR with all that is above").spec(Bench.MSR, 0xFFFF0001).fail(0, 1792, 1 << 19)
                .dueSpec(Bench.SRR1, 0x80001).dueSpec(Bench.MSR, 0xFFFF0001).same();
        twins("MSR with bit 17").spec(Bench.MSR, 1 << 17).fail(Code.imm(3, 31, 4, 0), 1792, 1 << 17)
                .dueSpec(Bench.SRR1, 1 << 17).dueSpec(Bench.MSR, 1 << 17).same();
    }

    /** An exception within the answer to another: the later overwrites what the first saved. */
    private void exceptionInAnAnswer() {
        twins("twice").mem(1792, 17 << 26).spec(Bench.MSR, Bench.PROBLEM | Bench.EE | 1).fail(0, 1792, 1 << 19)
                .failStep(3072, 0).dueSpec(Bench.SRR0, 1796).dueSpec(Bench.SRR1, 1).same();
        twins("at the vector itself").mem(1792, 0).spec(Bench.PC, 1792).failStep(1792, 1 << 19)
                .failStep(1792, 1 << 19).dueSpec(Bench.SRR0, 1792).same();
    }

    /** A page of segment 2 at 0x7000 by the entry at TABLE, and the address of its ninth byte in r4. */
    private Twins mapped(String what, int msr, int segment, int second) {
        return twins(what).spec(Bench.SDR1, TABLE).spec(34, segment).spec(Bench.MSR, Twins.PLAIN | msr)
                .mem(TABLE, (1 << 31) + 128 * 5).mem(TABLE + 4, second).reg(4, 0x20000008).reg(3, 0x99AABBCC)
                .mem(0x7008, 0x01020304).mem(0x7010, Code.imm(14, 3, 0, 1));
    }

    /** "FETCH not translated: 1024, x = 2^30 NOT FOUND, 2^27 PROTECTION, 2^28 NO EXECUTE." */
    private void fetchNotTranslated() {
        int msr = Bench.IR | Bench.DR | Bench.EE;
        mapped("no entry", msr, 6, 0x7002).spec(Bench.PC, 0x20000010).failStep(1024, NOT_FOUND).same();
        mapped("bit 31", msr, 5 | 1 << 31, 0x7002).spec(Bench.PC, 0x20000010).failStep(1024, NOT_FOUND).same();
        mapped("key", msr, 5 | 1 << 30, 0x7000).spec(Bench.PC, 0x20000010).failStep(1024, PROTECTION).same();
        mapped("bit 28", msr, 5 | 1 << 28, 0x7002).spec(Bench.PC, 0x20000010).failStep(1024, NO_EXECUTE).same();
        mapped("block", msr, 5, 0x7002).spec(16, 0x20000002).spec(17, 0x7000).spec(Bench.PC, 0x20000010)
                .failStep(1024, PROTECTION).same();
        mapped("PROBLEM", msr | Bench.PROBLEM, 5 | 1 << 29, 0x7000).spec(Bench.PC, 0x20000010)
                .failStep(1024, PROTECTION).same();
    }

    /** "LOAD or STORE not translated: 768, x = 0, DAR becomes the address, DSISR ..., and 2^25 more for STORE." */
    private void dataNotTranslated() {
        for (int op : new int[] {32, 33, 34, 35, 36, 37, 38, 39, 40, 42, 44}) {
            boolean stores = op >= 36 && op <= 39 || op == 44;
            int more = stores ? OF_STORE : 0;
            int instruction = Code.imm(op, 3, 4, 0);
            dataNotTranslated(instruction, 6, 0x7002, NOT_FOUND + more);
            dataNotTranslated(instruction, 5 | 1 << 31, 0x7002, NOT_FOUND + more);
            dataNotTranslated(instruction, 5 | 1 << 30, 0x7000, PROTECTION + more);
            if (stores) {
                dataNotTranslated(instruction, 5, 0x7003, PROTECTION + more);
                dataNotTranslated(instruction, 5 | 1 << 30, 0x7001, PROTECTION + more);
            }
        }
    }

    private void indexedDataNotTranslated() {
        for (int x : new int[] {23, 87, 151, 215}) {
            int more = x > 100 ? OF_STORE : 0;
            dataNotTranslated(Code.ext(x, 3, 4, 0), 6, 0x7002, NOT_FOUND + more);
            dataNotTranslated(Code.ext(x, 3, 4, 0), 5 | 1 << 30, 0x7000, PROTECTION + more);
        }
    }

    private void dataNotTranslated(int instruction, int segment, int second, int dsisr) {
        String what = "not translated " + Integer.toHexString(instruction) + " " + Integer.toHexString(segment);
        mapped(what, Bench.DR | Bench.EE, segment, second).reg(0, 0).spec(Bench.DSISR, -1)
                .fail(instruction, 768, 0).dueSpec(Bench.DAR, 0x20000008).dueSpec(Bench.DSISR, dsisr).same();
    }

    /** The instruction with D 3, A 4 and r5 or the constant 0 added. */
    private static int access(int kind) {
        return kind < 64 ? Code.imm(kind, 3, 4, 0) : Code.ext(kind - 31 * 1024, 3, 4, 5);
    }

    /** "Address of a word access with e & 3 not 0: 1536, x = 0, DAR becomes e". */
    private void wordsNotAligned() {
        for (int kind : WORDS) {
            for (int low = 1; low < 4; low++) {
                notAligned(kind, 0x1000 + low, 0);
                notAligned(kind, low - 4, 0);
            }
        }
    }

    /** "or of a half word with e & 1 not 0": the second half word of a word is well. */
    private void halvesNotAligned() {
        for (int kind : HALVES) {
            notAligned(kind, 0x1001, 0);
            notAligned(kind, 0x1003, 0);
            notAligned(kind, -1, 0);
        }
        twins("40 at 2").mem(0x1000, 0x01028304).run(Code.imm(40, 3, 0, 0x1002)).dueReg(3, 0x8304).same();
        twins("42 at 2").mem(0x1000, 0x01028304).run(Code.imm(42, 3, 0, 0x1002)).dueReg(3, 0xFFFF8304).same();
        twins("44 at 2").reg(3, 0x8304).run(Code.imm(44, 3, 0, 0x1002)).dueMem(0x1000, 0x8304).same();
    }

    private void notAligned(int kind, int e, int msr) {
        twins("not aligned " + kind + " at " + e).reg(4, e).reg(5, 0).spec(Bench.MSR, Twins.PLAIN | Bench.EE | msr)
                .mem(0x1000, 0x01020304).fail(access(kind), 1536, 0).dueSpec(Bench.DAR, e).same();
    }

    private void bytesAlwaysAligned() {
        for (int kind : BYTES) {
            for (int low = 0; low < 4; low++) {
                Twins twins = twins("byte " + kind + " at " + low).reg(4, 0x1000 + low).reg(5, 0).reg(3, 0x66);
                twins.mem(0x1000, 0x55555555).run(access(kind));
                boolean stores = kind == 38 || kind == 39 || kind == 31 * 1024 + 215;
                if (stores) {
                    twins.dueMem(0x1000, 0x55555555 ^ 0x33 << 24 - 8 * low).same();
                } else {
                    twins.dueReg(3, 0x55).same();
                }
            }
        }
    }

    /** "this is looked at before it is translated.": though nothing is found, or all is protected. */
    private void alignmentBeforeTranslation() {
        for (int kind : WORDS) {
            notAligned(kind, 0x20001002, Bench.DR);
        }
        for (int kind : HALVES) {
            notAligned(kind, 0x20001001, Bench.DR);
        }
        mapped("a page that refuses", Bench.DR, 5 | 1 << 30, 0x7000).fail(Code.imm(32, 3, 4, 1), 1536, 0)
                .dueSpec(Bench.DAR, 0x20000009).same();
    }

    /** It is the sum that counts, not its parts. */
    private void alignmentOfTheWholeAddress() {
        twins("two odd parts").reg(4, 0x1003).mem(0x1000, 5).run(Code.imm(32, 3, 4, -3)).dueReg(3, 5).same();
        twins("a sum that wraps").reg(4, -2).mem(0, 5).run(Code.imm(32, 3, 4, 2)).dueReg(3, 5).same();
        twins("one odd part").reg(4, 0x1000).fail(Code.imm(36, 3, 4, -1), 1536, 0).dueSpec(Bench.DAR, 0xFFF).same();
    }

    /** "An instruction that is not listed here (by OP ...): 1792, x = 2^19." */
    private void opNotListed() {
        for (int op = 0; op < 64; op++) {
            if (op != 19 && op != 31) {
                MappedProcessor p = new MappedProcessor();
                p.write(256, Code.imm(op, 0, 4, 0));
                p.set(0, 1024);
                check.due("OP " + op, p.step(1), has(LISTED, op) && op != 17 ? 0 : 1);
                check.due("OP " + op + " vector", p.vector(), op == 17 ? 3072 : has(LISTED, op) ? 0 : 1792);
                if (!has(LISTED, op)) {
                    twins("OP " + op).fail(Code.imm(op, 3, 4, -1), 1792, 1 << 19).same();
                    twins("OP " + op).spec(Bench.MSR, Bench.PROBLEM).fail(Code.imm(op, 3, 4, 1), 1792, 1 << 19).same();
                }
            }
        }
        twins("the word 0").fail(0, 1792, 1 << 19).same();
        twins("the word -1").fail(-1, 1792, 1 << 19).same();
    }

    /** "for 19 ... X". */
    private void nineteenNotListed() {
        for (int x = 0; x < 1024; x++) {
            MappedProcessor p = new MappedProcessor();
            p.write(256, Code.cond(x, 20, 0, 0));
            p.set(0, 1024);
            check.due("19, X " + x, p.step(1), has(LISTED_19, x) ? 0 : 1);
            check.due("19, X " + x + " vector", p.vector(), has(LISTED_19, x) ? 0 : 1792);
            check.due("19, X " + x + " SRR1", p.special(7), has(LISTED_19, x) ? 0 : 1 << 19);
        }
        twins("19, X 51").fail(Code.cond(51, 20, 4, 5) | 1, 1792, 1 << 19).same();
    }

    /** "and 31 X". */
    private void thirtyOneNotListed() {
        for (int x = 0; x < 1024; x++) {
            MappedProcessor p = new MappedProcessor();
            p.write(256, Code.ext(x, 0, 1, 0));
            p.set(0, 1024);
            check.due("31, X " + x, p.step(1), has(LISTED_31, x) ? 0 : 1);
            check.due("31, X " + x + " vector", p.vector(), has(LISTED_31, x) ? 0 : 1792);
            check.due("31, X " + x + " SRR1", p.special(7), has(LISTED_31, x) ? 0 : 1 << 19);
        }
        twins("31, X 1").fail(Code.dot(1, 3, 4, 5), 1792, 1 << 19).same();
        twins("31, X 1023").spec(Bench.MSR, Bench.PROBLEM).fail(Code.dot(1023, 3, 4, 5), 1792, 1 << 19).same();
    }

    /** "One marked # while PROBLEM is 1: 1792, x = 2^18." */
    private void privileged() {
        int[] words = {
            Code.cond(50, 0, 0, 0), Code.ext(83, 3, 0, 0), Code.ext(146, 3, 0, 0), Code.ext(210, 3, 2, 0),
            Code.ext(595, 3, 2, 0), Code.fromSpecial(3, 18), Code.toSpecial(18, 3), Code.fromSpecial(3, 19),
            Code.toSpecial(19, 3), Code.fromSpecial(3, 25), Code.toSpecial(25, 3), Code.fromSpecial(3, 26),
            Code.toSpecial(26, 3), Code.fromSpecial(3, 27), Code.toSpecial(27, 3), Code.fromSpecial(3, 528),
            Code.toSpecial(528, 3), Code.fromSpecial(3, 543), Code.toSpecial(543, 3)
        };
        for (int word : words) {
            twins("privileged " + Integer.toHexString(word)).spec(Bench.MSR, Twins.PLAIN | Bench.PROBLEM)
                    .fail(word, 1792, 1 << 18).same();
            MappedProcessor p = new MappedProcessor();
            p.write(0, word);
            check.due("allowed " + Integer.toHexString(word), p.step(1), 0);
        }
    }

    /** Those that bear no # are done while PROBLEM is 1. */
    private void notPrivileged() {
        int problem = Twins.PLAIN | Bench.PROBLEM;
        twins("XER").spec(Bench.MSR, problem).run(Code.fromSpecial(3, 1)).dueReg(3, 0x5A).same();
        twins("LR").spec(Bench.MSR, problem).run(Code.toSpecial(8, 3)).dueSpec(Bench.LR, 0x13233343).same();
        twins("CTR").spec(Bench.MSR, problem).run(Code.toSpecial(9, 3)).dueSpec(Bench.CTR, 0x13233343).same();
        twins("X 19").spec(Bench.MSR, problem).run(Code.ext(19, 3, 0, 0)).dueReg(3, 0x5A5A5A5A).same();
        twins("X 144").spec(Bench.MSR, problem).run(Code.ext(144, 3, 0, 0) | 255 << 12)
                .dueSpec(Bench.CR, 0x13233343).same();
        twins("X 598").spec(Bench.MSR, problem).run(Code.ext(598, 3, 0, 0)).same();
        twins("19, X 150").spec(Bench.MSR, problem).run(Code.cond(150, 3, 0, 0)).same();
        twins("17").spec(Bench.MSR, problem).fail(17 << 26, 3072, 0).dueSpec(Bench.SRR0, Twins.START + 4).same();
        twins("36").spec(Bench.MSR, problem).run(Code.imm(36, 3, 0, 0x1000)).dueMem(0x1000, 0x13233343).same();
    }

    /** "A trap: 1792, x = 2^17." */
    private void trapBits() {
        int msr = Twins.PLAIN | Bench.PROBLEM | Bench.EE;
        twins("3").spec(Bench.MSR, msr).fail(Code.imm(3, 31, 4, 0), 1792, 1 << 17).same();
        twins("X 4").spec(Bench.MSR, msr).fail(Code.ext(4, 31, 4, 5), 1792, 1 << 17).same();
    }

    /** "(bits 8 and 7 that its FETCH ... made 1 stay so)". */
    private void fetchMarkStays() {
        int msr = Bench.IR | Bench.DR;
        int marked = 0x7102;
        mapped("not listed", msr, 5, 0x7002).mem(0x7010, 0).spec(Bench.PC, 0x20000010).failStep(1792, 1 << 19)
                .dueMem(TABLE + 4, marked).same();
        mapped("trap", msr, 5, 0x7002).mem(0x7010, Code.imm(3, 31, 4, 0)).spec(Bench.PC, 0x20000010)
                .failStep(1792, 1 << 17).dueMem(TABLE + 4, marked).same();
        mapped("privileged", msr | Bench.PROBLEM, 5, 0x7002).mem(0x7010, Code.cond(50, 0, 0, 0))
                .spec(Bench.PC, 0x20000010).failStep(1792, 1 << 18).dueMem(TABLE + 4, marked).same();
        mapped("not aligned", msr, 5, 0x7002).mem(0x7010, Code.imm(32, 3, 4, 1)).spec(Bench.PC, 0x20000010)
                .failStep(1536, 0).dueSpec(Bench.DAR, 0x20000009).dueMem(TABLE + 4, marked).same();
        mapped("not found", msr, 5, 0x7002).mem(0x7010, Code.imm(36, 3, 0, 0)).spec(Bench.PC, 0x20000010)
                .spec(32, 0).failStep(768, 0).dueSpec(Bench.DAR, 0).dueSpec(Bench.DSISR, NOT_FOUND + OF_STORE)
                .dueMem(TABLE + 4, marked).same();
        mapped("call", msr, 5, 0x7002).mem(0x7010, 17 << 26).spec(Bench.PC, 0x20000010).failStep(3072, 0)
                .dueSpec(Bench.SRR0, 0x20000014).dueMem(TABLE + 4, marked).same();
    }

    /** "or a translation before": a store marks bit 7 as well, and a later refusal leaves both. */
    private void dataMarkStays() {
        mapped("store, then a refusal", Bench.DR, 5, 0x7002).run(Code.imm(36, 3, 4, 0)).dueMem(0x7008, 0x99AABBCC)
                .dueMem(TABLE + 4, 0x7182).spec(34, 5 | 1 << 31).fail(Code.imm(36, 3, 4, 0), 768, 0)
                .dueSpec(Bench.DAR, 0x20000008).dueSpec(Bench.DSISR, NOT_FOUND + OF_STORE).same();
    }

    /** "It counts as a step." */
    private void exceptionIsAStep() {
        MappedProcessor p = new MappedProcessor();
        check.due("50 exceptions", p.step(50), 50);
        check.due("50 steps", p.steps(), 50);
        check.due("PC", p.special(0), 1792);
        p.set(1, Bench.IR);
        check.due("a fetch refused", p.step(1), 1);
        check.due("51 steps", p.steps(), 51);
    }
}
