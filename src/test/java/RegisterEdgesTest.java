/** The edges of the terms of memory and registers: a method for each sentence that names one. */
public final class RegisterEdgesTest {
    private static final int MIN = Integer.MIN_VALUE;
    private static final int MAX = Integer.MAX_VALUE;

    private final Check check = new Check();

    public static void main(String[] args) {
        RegisterEdgesTest test = new RegisterEdgesTest();
        test.arithmeticWraps();
        test.bytesOfTheFirstAndLastWord();
        test.addressesOfData();
        test.addressesOfInstructions();
        test.unsignedNumbers();
        test.registersInInstructions();
        test.pcHasItsLowestBitsZero();
        test.problemIsOneBit();
        test.irIsOneBit();
        test.drIsOneBit();
        test.exceptionsClearFourBits();
        test.fieldsOfCr();
        test.bitsOfCr();
        test.soIsOneBit();
        test.caIsOneBit();
        test.crChangesOnlyAsSaid();
        test.compareAtTheEdges();
        test.recordAtTheEdges();
        test.check.end();
    }

    private Twins twins(String what) {
        return new Twins(check, what);
    }

    /** "arithmetic wraps." */
    private void arithmeticWraps() {
        twins("7 wraps").reg(4, MIN).run(Code.imm(7, 3, 4, 2)).dueReg(3, 0).same();
        twins("7 wraps").reg(4, 0x10001).run(Code.imm(7, 3, 4, 32767)).dueReg(3, 0x7FFF7FFF).same();
        twins("14 wraps").reg(4, MAX).run(Code.imm(14, 3, 4, 1)).dueReg(3, MIN).same();
        twins("14 wraps").reg(4, MIN).run(Code.imm(14, 3, 4, -1)).dueReg(3, MAX).same();
        twins("14 wraps").reg(4, -1).run(Code.imm(14, 3, 4, 1)).dueReg(3, 0).same();
        twins("15 wraps").reg(4, 0x7FFFFFFF).run(Code.imm(15, 3, 4, 1)).dueReg(3, 0x8000FFFF).same();
        twins("15 wraps").reg(4, MIN).run(Code.imm(15, 3, 4, -32768)).dueReg(3, 0).same();
        twins("266 wraps").reg(4, -1).reg(5, 1).run(Code.ext(266, 3, 4, 5)).dueReg(3, 0).same();
        twins("266 wraps").reg(4, MIN).reg(5, MIN).run(Code.ext(266, 3, 4, 5)).dueReg(3, 0).same();
        twins("40 wraps").reg(4, 1).reg(5, MIN).run(Code.ext(40, 3, 4, 5)).dueReg(3, MAX).same();
        twins("104 wraps").reg(4, MIN).run(Code.ext(104, 3, 4, 0)).dueReg(3, MIN).same();
        twins("235 wraps").reg(4, MIN).reg(5, -1).run(Code.ext(235, 3, 4, 5)).dueReg(3, MIN).same();
        twins("235 wraps").reg(4, 65536).reg(5, 65536).run(Code.ext(235, 3, 4, 5)).dueReg(3, 0).same();
    }

    /** "MEMORY has 16384 words, each of four bytes, the highest first". */
    private void bytesOfTheFirstAndLastWord() {
        for (int base : new int[] {0, 4, 65532}) {
            for (int k = 0; k < 4; k++) {
                String what = "byte " + k + " of the word at " + base;
                twins(what).mem(base, 0x81929394).reg(4, base).run(Code.imm(34, 3, 4, k))
                        .dueReg(3, 0x81929394 >>> 24 - 8 * k & 255).same();
                int rest = 0x81929394 & ~(255 << 24 - 8 * k);
                twins(what).mem(base, 0x81929394).reg(4, base).reg(3, 0x5577).run(Code.imm(38, 3, 4, k))
                        .dueMem(base, rest | 0x77 << 24 - 8 * k).same();
            }
            for (int k = 0; k < 4; k += 2) {
                String what = "half word " + k + " of the word at " + base;
                twins(what).mem(base, 0x81929394).reg(4, base).run(Code.imm(40, 3, 4, k))
                        .dueReg(3, 0x81929394 >>> 16 - 8 * k & 65535).same();
                int rest = 0x81929394 & ~(65535 << 16 - 8 * k);
                twins(what).mem(base, 0x81929394).reg(4, base).reg(3, 0x335577).run(Code.imm(44, 3, 4, k))
                        .dueMem(base, rest | 0x5577 << 16 - 8 * k).same();
            }
        }
    }

    /** "an address of memory counts by its lowest 16 bits alone." */
    private void addressesOfData() {
        for (int high : new int[] {0, 0x10000, 0x7FFF0000, MIN, 0xFFFF0000}) {
            for (int low : new int[] {0, 4, 0x7FFC, 0x8000, 0xFFFC}) {
                String what = "address " + Integer.toHexString(high + low);
                twins(what).mem(low, 0x0BADCAFE).reg(4, high + low).run(Code.imm(32, 3, 4, 0))
                        .dueReg(3, 0x0BADCAFE).same();
                twins(what).reg(3, 0x0BADCAFE).reg(4, high).reg(5, low).run(Code.ext(151, 3, 4, 5))
                        .dueMem(low, 0x0BADCAFE).same();
            }
        }
    }

    /** The same, for PC, which itself keeps all its bits. */
    private void addressesOfInstructions() {
        for (int pc : new int[] {0, 65532, 65536, 0x7FFFFFFC, MIN, 0xFFFF8000, -8}) {
            twins("PC " + Integer.toHexString(pc)).mem(pc, Code.imm(14, 3, 0, 9)).spec(Bench.PC, pc).step()
                    .dueReg(3, 9).same();
        }
        twins("PC wraps").mem(-4, Code.imm(14, 3, 0, 9)).spec(Bench.PC, -4).step().dueReg(3, 9)
                .dueSpec(Bench.PC, 0).same();
        twins("PC becomes negative").mem(65532, Code.imm(14, 3, 0, 9)).spec(Bench.PC, 0x7FFFFFFC).step()
                .dueReg(3, 9).dueSpec(Bench.PC, MIN).same();
    }

    /** "'Unsigned' means as a number from 0 to 2^32 - 1." */
    private void unsignedNumbers() {
        int[] rising = {0, 1, MAX, MIN, MIN + 1, -2, -1};
        for (int j = 0; j < rising.length; j++) {
            for (int k = 0; k < rising.length; k++) {
                int order = j < k ? 8 : j > k ? 4 : 2;
                twins("unsigned " + rising[j] + " and " + rising[k]).reg(4, rising[j]).reg(5, rising[k])
                        .run(Code.ext(32, 0, 4, 5)).dueSpec(Bench.CR, order << 28 | 0x0A5A5A5A).same();
            }
        }
    }

    /** "General ones r0 .. r31": the first and the last, as D, A and B. */
    private void registersInInstructions() {
        for (int d : new int[] {0, 31}) {
            for (int a : new int[] {0, 30, 31}) {
                for (int b : new int[] {0, 29, 31}) {
                    int aValue = 0x10203040 + 0x01010101 * a;
                    int bValue = 0x10203040 + 0x01010101 * b;
                    twins("r" + d + " = r" + a + " + r" + b).run(Code.ext(266, d, a, b))
                            .dueReg(d, aValue + bValue).same();
                }
            }
        }
    }

    /** "PC has its lowest two bits 0 always.": by whatever it is changed. */
    private void pcHasItsLowestBitsZero() {
        for (int low = 0; low < 4; low++) {
            twins("PC set").spec(Bench.PC, 0x800 + low).dueSpec(Bench.PC, 0x800).same();
            twins("PC by X 16").spec(Bench.LR, 0x800 + low).run(Code.cond(16, 20, 0, 0))
                    .dueSpec(Bench.PC, 0x800).same();
            twins("PC by X 528").spec(Bench.CTR, 0x800 + low).run(Code.cond(528, 20, 0, 0))
                    .dueSpec(Bench.PC, 0x800).same();
            twins("PC by X 50").spec(Bench.SRR0, 0x800 + low).spec(Bench.SRR1, 0).run(Code.cond(50, 0, 0, 0))
                    .dueSpec(Bench.MSR, 0).dueSpec(Bench.PC, 0x800).same();
        }
        twins("PC by 16").run(Code.imm(16, 20, 0, 0x803)).dueSpec(Bench.PC, 0x800)
                .dueSpec(Bench.LR, Twins.START + 4).same();
        twins("PC by 18").run(Code.jump(0x803)).dueSpec(Bench.PC, 0x800).dueSpec(Bench.LR, Twins.START + 4).same();
        Twins twins = twins("PC by the step after LR & ~3").spec(Bench.LR, 0x803).mem(0x800, Code.imm(14, 3, 0, 1));
        twins.run(Code.cond(16, 20, 0, 0)).dueSpec(Bench.PC, 0x800).step().dueReg(3, 1).same();
    }

    /** "PROBLEM is bit 14": no other bit of MSR forbids an instruction marked #. */
    private void problemIsOneBit() {
        for (int bit = 0; bit < 32; bit++) {
            Twins twins = twins("X 595 with MSR bit " + bit).spec(Bench.MSR, bit == 5 ? 0 : 1 << bit).spec(32, 99);
            if (bit == 14) {
                twins.fail(Code.ext(595, 3, 0, 0), 1792, 1 << 18).same();
            } else {
                twins.run(Code.ext(595, 3, 0, 0)).dueReg(3, 99).same();
            }
        }
    }

    /** "IR bit 5": no other bit of MSR has a fetch translated. */
    private void irIsOneBit() {
        for (int bit = 0; bit < 32; bit++) {
            Twins twins = twins("fetch with MSR bit " + bit).spec(Bench.MSR, 1 << bit).spec(32, 1 << 31);
            if (bit == 5) {
                twins.fail(Code.imm(14, 3, 0, 9), 1024, 1 << 30).same();
            } else {
                twins.run(Code.imm(14, 3, 0, 9)).dueReg(3, 9).same();
            }
        }
    }

    /** "DR bit 4": no other bit of MSR has a load or a store translated. */
    private void drIsOneBit() {
        for (int bit = 0; bit < 32; bit++) {
            int msr = bit == 5 ? 0 : 1 << bit;
            Twins load = twins("load with MSR bit " + bit).spec(Bench.MSR, msr).spec(32, 1 << 31).mem(0x1000, 9);
            Twins store = twins("store with MSR bit " + bit).spec(Bench.MSR, msr).spec(32, 1 << 31).reg(3, 9);
            if (bit == 4) {
                load.fail(Code.imm(32, 3, 0, 0x1000), 768, 0).dueSpec(Bench.DAR, 0x1000);
                load.dueSpec(Bench.DSISR, 1 << 30).same();
                store.fail(Code.imm(36, 3, 0, 0x1000), 768, 0).dueSpec(Bench.DAR, 0x1000);
                store.dueSpec(Bench.DSISR, 1 << 30 | 1 << 25).same();
            } else {
                load.run(Code.imm(32, 3, 0, 0x1000)).dueReg(3, 9).same();
                store.run(Code.imm(36, 3, 0, 0x1000)).dueMem(0x1000, 9).same();
            }
        }
    }

    /** "(and EE bit 15, which only is cleared with them)": each of the four, and no other bit. */
    private void exceptionsClearFourBits() {
        for (int bit = 0; bit < 32; bit++) {
            if (bit != 5) {
                boolean cleared = bit == 15 || bit == 14 || bit == 4;
                twins("exception with MSR bit " + bit).spec(Bench.MSR, 1 << bit).fail(17 << 26, 3072, 0)
                        .dueSpec(Bench.MSR, cleared ? 0 : 1 << bit).dueSpec(Bench.SRR1, bit < 16 ? 1 << bit : 0)
                        .dueSpec(Bench.SRR0, Twins.START + 4).same();
            }
        }
        twins("exception with all of MSR").spec(Bench.MSR, -1).spec(17, 0).spec(16, 1)
                .fail(0, 1024, 1 << 27).dueSpec(Bench.MSR, 0xFFFF3FCF).dueSpec(Bench.SRR1, 0x0800FFFF).same();
    }

    /** "CR has fields 0 .. 7, field f being the bits 31 - 4 * f (LESS), 30 .. (GREATER), 29 .. (EQUAL), 28 ..". */
    private void fieldsOfCr() {
        for (int f = 0; f < 8; f++) {
            fieldOfCr(f, 1, 2, 31 - 4 * f);
            fieldOfCr(f, 2, 1, 30 - 4 * f);
            fieldOfCr(f, 2, 2, 29 - 4 * f);
        }
    }

    private void fieldOfCr(int f, int x, int y, int bit) {
        for (int before : new int[] {0, -1}) {
            for (int so = 0; so < 2; so++) {
                int others = before & ~(15 << 28 - 4 * f);
                twins("field " + f + " of " + x + " and " + y).reg(4, x).reg(5, y).spec(Bench.CR, before)
                        .spec(Bench.XER, so << 31).run(Code.ext(0, 4 * f, 4, 5))
                        .dueSpec(Bench.CR, others | 1 << bit | so << 28 - 4 * f).same();
            }
        }
    }

    /** "CR BIT n, n from 0 to 31, is bit 31 - n." */
    private void bitsOfCr() {
        for (int n = 0; n < 32; n++) {
            twins("CR bit " + n).spec(Bench.CR, 1 << 31 - n).run(Code.imm(16, 12, n, 64))
                    .dueSpec(Bench.PC, Twins.START + 64).same();
            twins("CR without bit " + n).spec(Bench.CR, ~(1 << 31 - n)).run(Code.imm(16, 12, n, 64)).same();
            twins("to CR bit " + n).spec(Bench.CR, 0).run(Code.cond(193, n, 0, 0)).same();
            twins("from CR to bit " + n).spec(Bench.CR, ~(1 << 31 - n)).run(Code.cond(449, n, n ^ 1, n ^ 1))
                    .dueSpec(Bench.CR, -1).same();
        }
    }

    /** "XER: SO is bit 31": no other bit of XER becomes the SUMMARY. */
    private void soIsOneBit() {
        for (int bit = 0; bit < 32; bit++) {
            twins("SUMMARY by XER bit " + bit).spec(Bench.XER, 1 << bit).spec(Bench.CR, 0).reg(4, 5)
                    .run(Code.imm(11, 28, 4, 5)).dueSpec(Bench.CR, bit == 31 ? 3 : 2).same();
        }
    }

    /** "CA bit 29": no other bit of XER is added, and none other changes. */
    private void caIsOneBit() {
        for (int bit = 0; bit < 32; bit++) {
            int rest = bit == 29 ? 0 : 1 << bit;
            twins("sum with XER bit " + bit).spec(Bench.XER, 1 << bit).reg(4, 5).reg(5, 6)
                    .run(Code.ext(138, 3, 4, 5)).dueReg(3, bit == 29 ? 12 : 11).dueSpec(Bench.XER, rest).same();
            twins("carry beside XER bit " + bit).spec(Bench.XER, 1 << bit).reg(4, -1).reg(5, -1)
                    .run(Code.ext(10, 3, 4, 5)).dueReg(3, -2).dueSpec(Bench.XER, rest | Bench.CA).same();
        }
    }

    /** "CR is changed only as said": bit 0 of an instruction that is not told to record changes nothing. */
    private void crChangesOnlyAsSaid() {
        int five = 5;
        twins("X 23").mem(0x1000, five).reg(4, 0).reg(5, 0x1000).run(Code.dot(23, 3, 4, 5)).dueReg(3, five).same();
        twins("X 87").mem(0x1000, -1).reg(4, 0).reg(5, 0x1000).run(Code.dot(87, 3, 4, 5)).dueReg(3, 255).same();
        twins("X 151").reg(3, -1).reg(4, 0).reg(5, 0x1000).run(Code.dot(151, 3, 4, 5)).dueMem(0x1000, -1).same();
        twins("X 215").reg(3, -1).reg(4, 0).reg(5, 0x1000).run(Code.dot(215, 3, 4, 5))
                .dueMem(0x1000, 255 << 24).same();
        twins("X 19").run(Code.dot(19, 3, 0, 0)).dueReg(3, 0x5A5A5A5A).same();
        twins("X 83").run(Code.dot(83, 3, 0, 0)).dueReg(3, Twins.PLAIN).same();
        twins("X 146").reg(3, 7).run(Code.dot(146, 3, 0, 0)).dueSpec(Bench.MSR, 7).same();
        twins("X 595").spec(35, 8).run(Code.dot(595, 3, 3, 0)).dueReg(3, 8).same();
        twins("X 210").reg(3, 8).run(Code.dot(210, 3, 3, 0)).dueSpec(35, 8).same();
        twins("X 339").spec(Bench.LR, 8).run(Code.fromSpecial(3, 8) | 1).dueReg(3, 8).same();
        twins("X 467").reg(3, 8).run(Code.toSpecial(8, 3) | 1).dueSpec(Bench.LR, 8).same();
        twins("X 598").run(Code.dot(598, 3, 4, 5)).same();
        twins("X 4").run(Code.dot(4, 0, 4, 5)).same();
        twins("19, X 150").run(Code.cond(150, 3, 4, 5) | 1).same();
        twins("OP 3").run(Code.imm(3, 0, 4, 1)).same();
        for (int op : new int[] {7, 14, 24, 26}) {
            int low = 1;
            int value = op == 7 ? five : op == 14 ? five + 1 : op == 24 ? five | 1 : five ^ 1;
            twins("OP " + op).reg(3, five).reg(4, five).run(Code.imm(op, 3, 4, low))
                    .dueReg(op < 24 ? 3 : 4, value).same();
        }
        twins("OP 12").reg(4, five).run(Code.imm(12, 3, 4, 1)).dueReg(3, 6).same();
        twins("OP 8").reg(4, five).run(Code.imm(8, 3, 4, 1)).dueReg(3, -4).same();
        twins("OP 32").reg(4, 0xFFF).mem(0x1000, five).run(Code.imm(32, 3, 4, 1)).dueReg(3, five).same();
    }

    /** "to COMPARE x and y into field f sets its LESS, GREATER, EQUAL as x < y, x > y, x = y". */
    private void compareAtTheEdges() {
        int[] rising = {MIN, MIN + 1, -1, 0, 1, MAX - 1, MAX};
        for (int j = 0; j < rising.length; j++) {
            for (int k = 0; k < rising.length; k++) {
                int order = j < k ? 8 : j > k ? 4 : 2;
                twins("compare " + rising[j] + " and " + rising[k]).reg(4, rising[j]).reg(5, rising[k])
                        .run(Code.ext(0, 28, 4, 5)).dueSpec(Bench.CR, 0x5A5A5A50 | order).same();
            }
        }
    }

    /** "to RECORD x is to compare x and 0 as ints into field 0." */
    private void recordAtTheEdges() {
        for (int x : new int[] {MIN, MIN + 1, -1, 0, 1, MAX}) {
            for (int xer : new int[] {0, MIN, ~MIN, -1}) {
                twins("record " + x).spec(Bench.XER, xer).reg(4, x).reg(5, 0).run(Code.dot(266, 3, 4, 5))
                        .dueReg(3, x).dueRecord(x).same();
            }
        }
    }
}
