/** The edges of the translation by blocks: a method for each sentence that names one. */
public final class BlockEdgesTest {
    private static final int FETCH = 0;
    private static final int LOAD = 1;
    private static final int STORE = 2;
    private static final int BOTH = Bench.IR | Bench.DR;

    private final Check check = new Check();

    public static void main(String[] args) {
        BlockEdgesTest test = new BlockEdgesTest();
        test.notTranslated();
        test.instructionAndDataBlocks();
        test.validBits();
        test.maskBits();
        test.matchedBits();
        test.largestAndSmallestBlock();
        test.leastBlockCounts();
        test.refusingBlockCounts();
        test.invalidBlockIsPassed();
        test.protectionOfBlocks();
        test.addressThroughBlock();
        test.blockNeedsNoSegment();
        test.stepThroughBlocks();
        test.check.end();
    }

    private MappedProcessor processor(int msr) {
        MappedProcessor p = new MappedProcessor();
        p.set(Bench.MSR, msr);
        return p;
    }

    /** Instruction block and data block k alike. */
    private static void blocks(MappedProcessor p, int k, int upper, int lower) {
        p.set(16 + 2 * k, upper);
        p.set(17 + 2 * k, lower);
        p.set(24 + 2 * k, upper);
        p.set(25 + 2 * k, lower);
    }

    private void due(String what, MappedProcessor p, int e, int way, int want) {
        check.due(what + ": translate " + Integer.toHexString(e) + " for " + way, p.translate(e, way), want);
    }

    /** "when IR (for FETCH), or DR (for the others), is 0, it is e." */
    private void notTranslated() {
        for (int e : new int[] {0, 3, 65535, 65536, 0x7FFFFFFF, Integer.MIN_VALUE, -1}) {
            for (int msr : new int[] {0, Bench.IR, Bench.DR, BOTH, ~BOTH}) {
                MappedProcessor p = processor(msr);
                blocks(p, 0, 0x1FFF | e & 0xFF000000, 0);
                due("MSR " + msr, p, e, FETCH, (msr & Bench.IR) == 0 ? e & 65535 : -2);
                due("MSR " + msr, p, e, LOAD, (msr & Bench.DR) == 0 ? e & 65535 : -2);
                due("MSR " + msr, p, e, STORE, (msr & Bench.DR) == 0 ? e & 65535 : -2);
            }
        }
    }

    /** "with the instruction blocks for FETCH and the data blocks for the others". */
    private void instructionAndDataBlocks() {
        for (int k = 0; k < 4; k++) {
            MappedProcessor p = processor(BOTH);
            p.set(16 + 2 * k, 2);
            p.set(17 + 2 * k, 0x4002);
            due("instruction block " + k, p, 12, FETCH, 0x400C);
            due("instruction block " + k, p, 12, LOAD, -1);
            due("instruction block " + k, p, 12, STORE, -1);
            MappedProcessor q = processor(BOTH);
            q.set(24 + 2 * k, 2);
            q.set(25 + 2 * k, 0x6002);
            due("data block " + k, q, 12, FETCH, -1);
            due("data block " + k, q, 12, LOAD, 0x600C);
            due("data block " + k, q, 12, STORE, 0x600C);
        }
    }

    /** "VALID when bit 1 of u is 1 and PROBLEM is 0, or bit 0 of u is 1 and PROBLEM is 1." */
    private void validBits() {
        for (int bits = 0; bits < 4; bits++) {
            for (int way = 0; way < 3; way++) {
                MappedProcessor p = processor(BOTH);
                blocks(p, 3, 0x2000 | bits, 0x4002);
                due("bits " + bits, p, 0x2000, way, (bits & 2) != 0 ? 0x4000 : -1);
                p.set(Bench.MSR, BOTH | Bench.PROBLEM);
                due("bits " + bits + " in PROBLEM", p, 0x2000, way, (bits & 1) != 0 ? 0x4000 : -1);
            }
        }
    }

    /** "Let m be (u >> 2 & 2047) << 13.": bit 2 of u is the first that counts, bit 12 the last. */
    private void maskBits() {
        for (int bit = 2; bit <= 12; bit++) {
            MappedProcessor p = processor(BOTH);
            blocks(p, 0, 0x50000002 | 1 << bit, 2);
            int free = 1 << bit + 11;
            for (int way = 0; way < 3; way++) {
                due("m by bit " + bit, p, 0x50000000, way, 0);
                due("m by bit " + bit, p, 0x50000000 | free, way, free & 65535);
                for (int other = 13; other < 32; other++) {
                    if (1 << other != free) {
                        due("m by bit " + bit + " alone", p, 0x50000000 ^ 1 << other, way, -1);
                    }
                }
            }
        }
        MappedProcessor top = processor(BOTH);
        blocks(top, 0, 0x80001FFE, 2);
        due("u with its highest bit", top, 0x80FFFFFF, LOAD, 65535);
        due("u with its highest bit", top, 0x81000000, LOAD, -1);
    }

    /** "e and u have the same bits 31 .. 13": each of these, and none below. */
    private void matchedBits() {
        for (int u : new int[] {0, 0xFFFFE000, 0x5555A000}) {
            MappedProcessor p = processor(BOTH);
            blocks(p, 1, u | 2, 0x8002);
            for (int bit = 0; bit < 32; bit++) {
                int low = bit < 13 ? 1 << bit : 0;
                due("bit " + bit, p, u ^ 1 << bit, LOAD, bit < 13 ? 0x8000 | low : -1);
                due("bit " + bit, p, u ^ 1 << bit, FETCH, bit < 13 ? 0x8000 | low : -1);
            }
        }
    }

    /** "but for those that are 1 in m": from no bit of m, 8192 bytes, to all, 2^24. */
    private void largestAndSmallestBlock() {
        MappedProcessor small = processor(BOTH);
        blocks(small, 0, 0x30002002, 0x4002);
        due("smallest, before it", small, 0x30001FFF, LOAD, -1);
        due("smallest, first", small, 0x30002000, LOAD, 0x4000);
        due("smallest, last", small, 0x30003FFF, LOAD, 0x5FFF);
        due("smallest, behind it", small, 0x30004000, LOAD, -1);
        MappedProcessor large = processor(BOTH);
        blocks(large, 0, 0x30001FFE, 0xE002);
        due("largest, before it", large, 0x2FFFFFFF, LOAD, -1);
        due("largest, first", large, 0x30000000, LOAD, 0);
        due("largest, last", large, 0x30FFFFFF, LOAD, 0xFFFF);
        due("largest, behind it", large, 0x31000000, LOAD, -1);
        MappedProcessor holes = processor(BOTH);
        blocks(holes, 0, 0x3000000A, 0x2002);
        due("m with a hole", holes, 0x30000000, LOAD, 0x2000);
        due("m with a hole", holes, 0x30002000, LOAD, -1);
        due("m with a hole", holes, 0x30004000, LOAD, 0x6000);
        MappedProcessor ones = processor(BOTH);
        blocks(ones, 0, 0x30FFE002 | 1 << 2, 2);
        due("u with a 1 where m has one", ones, 0x30FFC000, LOAD, 0);
        due("u with a 1 where m has one", ones, 0x30FFE000, LOAD, 0x2000);
    }

    /** "Of the matching blocks that with the least k counts". */
    private void leastBlockCounts() {
        for (int set = 1; set < 16; set++) {
            MappedProcessor p = processor(BOTH);
            for (int k = 0; k < 4; k++) {
                blocks(p, k, (set >> k & 1) == 1 ? 2 : 0x40000002, 0x2000 * k + 0x4002);
            }
            int least = Integer.numberOfTrailingZeros(set);
            for (int way = 0; way < 3; way++) {
                due("matching blocks " + set, p, 4, way, 0x2000 * least + 0x4004);
            }
        }
    }

    /** A block that refuses counts too: a later block or an entry does not stand in for it. */
    private void refusingBlockCounts() {
        for (int k = 0; k < 4; k++) {
            MappedProcessor p = processor(BOTH);
            p.set(Bench.SDR1, 0x8000);
            p.write(0x2000, 1 << 31);
            p.write(0x2001, 0x7002);
            due("without a block", p, 4, LOAD, 0x7004);
            for (int later = k; later < 4; later++) {
                blocks(p, later, 2, later == k ? 0x4000 : 0x4002);
            }
            for (int way = 0; way < 3; way++) {
                due("refused by block " + k, p, 4, way, -2);
            }
        }
    }

    /** A block that is not valid does not match, whatever its other bits are. */
    private void invalidBlockIsPassed() {
        MappedProcessor p = processor(BOTH);
        blocks(p, 0, 1, 0x4000);
        blocks(p, 1, 2, 0x6002);
        due("block 0 is for PROBLEM", p, 4, LOAD, 0x6004);
        p.set(Bench.MSR, BOTH | Bench.PROBLEM);
        due("block 0 in PROBLEM", p, 4, LOAD, -2);
        blocks(p, 0, 0, 0x4002);
        due("no block for PROBLEM", p, 4, LOAD, -1);
    }

    /** "it refuses PROTECTION when p is 0, or the way is STORE and p is not 2". */
    private void protectionOfBlocks() {
        for (int problem : new int[] {0, Bench.PROBLEM}) {
            for (int p = 0; p < 4; p++) {
                for (int lower : new int[] {0xA000, 0xBFFC}) {
                    MappedProcessor processor = processor(BOTH | problem);
                    blocks(processor, 2, 3, lower | p);
                    due("p " + p, processor, 8, FETCH, p == 0 ? -2 : 0xA008);
                    due("p " + p, processor, 8, LOAD, p == 0 ? -2 : 0xA008);
                    due("p " + p, processor, 8, STORE, p == 2 ? 0xA008 : -2);
                }
            }
        }
    }

    /** "otherwise the bits 31 .. 13 are those of l, or, where m has a 1, those of e; the others those of e." */
    private void addressThroughBlock() {
        for (int m = 0; m < 8; m++) {
            for (int top = 0; top < 8; top++) {
                for (int low : new int[] {0, 1, 4096, 8191}) {
                    MappedProcessor p = processor(BOTH);
                    blocks(p, 0, 0x60000002 | m << 2, top << 13 | 0x1FFC | 2);
                    int e = 0x60000000 | m << 13 | low;
                    due("m " + m + " l " + top, p, e, LOAD, (top & ~m | m) << 13 | low);
                    due("m " + m + " l " + top, p, e ^ m << 13, LOAD, (top & ~m) << 13 | low);
                }
            }
        }
    }

    /** "No block matches: let s be the segment": one that does match asks no segment. */
    private void blockNeedsNoSegment() {
        MappedProcessor p = processor(BOTH);
        blocks(p, 3, 0xF0000002, 0x4002);
        p.set(47, 1 << 31 | 1 << 28);
        for (int way = 0; way < 3; way++) {
            due("block before segment", p, 0xF0001FFC, way, 0x5FFC);
            due("beside the block", p, 0xF0002000, way, -1);
        }
    }

    /** The same blocks in a step: the fetch by an instruction block, the store by a data block, both refused too. */
    private void stepThroughBlocks() {
        twins("step by blocks").mem(0x4010, Code.imm(36, 3, 4, -4)).step().dueMem(0x7FFC, 0x99).same();
        twins("p 1 for the fetch").spec(23, 0x4001).mem(0x4010, Code.imm(36, 3, 4, -4)).step()
                .dueMem(0x7FFC, 0x99).same();
        twins("p 0 for the fetch").spec(23, 0x4000).failStep(1024, 1 << 27).same();
        twins("p 1 for the store").spec(31, 0x6001).mem(0x4010, Code.imm(36, 3, 4, -4)).failStep(768, 0)
                .dueSpec(Bench.DAR, 0x30001FFC).dueSpec(Bench.DSISR, 1 << 27 | 1 << 25).same();
        twins("p 0 for the load").spec(31, 0x6000).mem(0x4010, Code.imm(32, 3, 4, -4)).failStep(768, 0)
                .dueSpec(Bench.DAR, 0x30001FFC).dueSpec(Bench.DSISR, 1 << 27).same();
        twins("p 3 for the load").spec(31, 0x6003).mem(0x4010, Code.imm(32, 3, 4, -4)).mem(0x7FFC, 0x77).step()
                .dueReg(3, 0x77).same();
        twins("behind the block").spec(35, 1 << 31).mem(0x4010, Code.imm(32, 3, 4, 0)).failStep(768, 0)
                .dueSpec(Bench.DAR, 0x30002000).dueSpec(Bench.DSISR, 1 << 30).same();
    }

    /** PC in instruction block 3, r4 just behind data block 3. */
    private Twins twins(String what) {
        return new Twins(check, what).spec(Bench.MSR, Twins.PLAIN | BOTH).spec(22, 0x30000002).spec(23, 0x4002)
                .spec(30, 0x30000002).spec(31, 0x6002).spec(Bench.PC, 0x30000010).reg(3, 0x99).reg(4, 0x30002000);
    }
}
