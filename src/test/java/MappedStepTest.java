/** Promise 8 with translation on: what steps mark in the page table, and the exceptions 768 and 1024. */
public final class MappedStepTest {
    private static final int TABLE = 0x8000;
    private static final int ENTRY = TABLE + 4;
    private static final int NOT_FOUND = 1 << 30;
    private static final int NO_EXECUTE = 1 << 28;
    private static final int PROTECTION = 1 << 27;
    private static final int OF_STORE = 1 << 25;
    private static final int USED = 256;
    private static final int CHANGED = 128;

    private final Check check = new Check();

    public static void main(String[] args) {
        MappedStepTest test = new MappedStepTest();
        test.marks();
        test.fetchMarks();
        test.blocksMarkNothing();
        test.laterStepsMarkNothing();
        test.fetchRefused();
        test.dataRefused();
        test.refusalMarksNothing();
        test.marksStay();
        test.markBeforeAccess();
        test.storeIntoTable();
        test.segmentChangedByProgram();
        test.check.end();
    }

    /** Segment 2, page 0 goes to 0x7000 by the first entry of the table; only group 0 is used. */
    private Bench bench(int msr, int second) {
        Bench bench = new Bench(check).spec(Bench.SDR1, TABLE).spec(34, 5).spec(Bench.MSR, msr);
        return bench.mem(TABLE, (1 << 31) + 128 * 5).mem(ENTRY, second).reg(4, 0x20000000).reg(3, 0x99AABBCC);
    }

    private void marks() {
        for (int op : new int[] {32, 34, 40, 42}) {
            Bench bench = bench(Bench.DR, 0x7002).mem(0x7000, 0x01020304).run(256, Code.imm(op, 6, 4, 0));
            bench.isMem("OP " + op, ENTRY, 0x7002 | USED);
            bench.isReg("OP " + op, 6, op == 32 ? 0x01020304 : op == 34 ? 1 : 0x0102);
        }
        for (int op : new int[] {36, 38, 44}) {
            Bench bench = bench(Bench.DR, 0x7002).run(256, Code.imm(op, 3, 4, 0));
            bench.isMem("OP " + op, ENTRY, 0x7002 | USED | CHANGED);
            bench.isMem("OP " + op, 0x7000, op == 36 ? 0x99AABBCC : op == 38 ? 0xCC000000 : 0xBBCC0000);
        }
        Bench bench = bench(Bench.DR, 0x7E7E).mem(0x7FFC, 77).run(256, Code.imm(33, 6, 4, 0xFFC));
        bench.isReg("the untranslated address", 4, 0x20000FFC).isReg("the untranslated address", 6, 77);
        bench.isMem("the other bits stay", ENTRY, 0x7E7E | USED).run(256, Code.imm(37, 3, 4, -4));
        bench.isReg("the untranslated address", 4, 0x20000FF8).isMem("store with update", 0x7FF8, 0x99AABBCC);
        bench.isMem("the other bits stay", ENTRY, 0x7E7E | USED | CHANGED);
        Bench second = bench(Bench.DR, 0).mem(TABLE, 0).mem(TABLE + 40, (1 << 31) + 128 * 5 + 64);
        second.mem(TABLE + 44, 0x7002).run(256, Code.imm(36, 3, 4, 0)).isMem("second group", TABLE + 44, 0x7182);
        second.isMem("second group", ENTRY, 0);
    }

    private void fetchMarks() {
        Bench bench = bench(Bench.IR, 0x7003).mem(0x7010, Code.imm(14, 6, 0, 5)).spec(Bench.PC, 0x20000010);
        check.due("mapped fetch", bench.p.step(1), 0);
        bench.isReg("mapped fetch", 6, 5).isSpec("mapped fetch", Bench.PC, 0x20000014);
        bench.isMem("mapped fetch", ENTRY, 0x7003 | USED);
    }

    private void blocksMarkNothing() {
        Bench bench = bench(Bench.IR | Bench.DR, 0x7002).spec(16, 2).spec(17, 2).spec(24, 0x20000002).spec(25, 0x6002);
        bench.run(256, Code.imm(36, 3, 4, 8)).isMem("by a block", 0x6008, 0x99AABBCC);
        bench.isMem("by a block", ENTRY, 0x7002);
    }

    /** An entry that an earlier translation marked is not marked anew by one that does not use it. */
    private void laterStepsMarkNothing() {
        Bench bench = bench(Bench.DR, 0x7002).run(256, Code.imm(36, 3, 4, 0)).mem(ENTRY, 0x7002);
        bench.run(256, Code.imm(14, 6, 0, 1)).isMem("a fetch that is not translated", ENTRY, 0x7002);
        bench.run(256, Code.imm(32, 6, 4, 0)).mem(ENTRY, 0x7002).spec(24, 0x20000002).spec(25, 0x6002);
        bench.run(256, Code.imm(36, 3, 4, 0)).isMem("a store by a block", ENTRY, 0x7002);
        bench.spec(24, 0).p.translate(0x20000000, 2);
        bench.run(256, Code.imm(14, 6, 0, 1)).isMem("a step after translate", ENTRY, 0x7002);
    }

    private void fetchRefused() {
        fetchRefused(34, 5 | 1 << 31, 0x7002, NOT_FOUND);
        fetchRefused(34, 6, 0x7002, NOT_FOUND);
        fetchRefused(34, 5 | 1 << 28, 0x7002, NO_EXECUTE);
        fetchRefused(34, 5 | 1 << 30, 0x7000, PROTECTION);
        Bench block = bench(Bench.IR, 0x7002).spec(16, 0x20000002).spec(17, 0x7000).spec(Bench.PC, 0x20000010);
        check.due("refused by a block", block.p.step(1), 1);
        block.isException("refused by a block", 1024, 0x20000010, PROTECTION | Bench.IR);
    }

    private void fetchRefused(int s, int segment, int second, int bits) {
        String what = "fetch refused " + Integer.toHexString(bits);
        int msr = 0x10000000 | Bench.IR | Bench.DR | Bench.EE | 0x0F0F;
        Bench bench = bench(msr, second).spec(s, segment).mem(0x7010, Code.imm(14, 6, 0, 5));
        bench.spec(Bench.DAR, 11).spec(Bench.DSISR, 12).spec(Bench.PC, 0x20000010);
        check.due(what, bench.p.step(1), 1);
        bench.isException(what, 1024, 0x20000010, bits | msr & 65535).isSpec(what, Bench.MSR, 0x10000F0F);
        bench.isSpec(what, Bench.DAR, 11).isSpec(what, Bench.DSISR, 12).isReg(what, 6, 0);
        bench.isMem(what, ENTRY, second);
        check.due(what + " steps", bench.p.steps(), 1);
    }

    private void dataRefused() {
        int[] loads = {32, 33, 34, 35, 40, 42};
        int[] stores = {36, 37, 38, 39, 44};
        for (int op : loads) {
            dataRefused(Code.imm(op, 3, 4, 8), 6, 0x7002, NOT_FOUND);
            dataRefused(Code.imm(op, 3, 4, 8), 5 | 1 << 31, 0x7002, NOT_FOUND);
            dataRefused(Code.imm(op, 3, 4, 8), 5 | 1 << 30, 0x7000, PROTECTION);
        }
        for (int op : stores) {
            dataRefused(Code.imm(op, 3, 4, 8), 6, 0x7002, NOT_FOUND | OF_STORE);
            dataRefused(Code.imm(op, 3, 4, 8), 5, 0x7003, PROTECTION | OF_STORE);
            dataRefused(Code.imm(op, 3, 4, 8), 5 | 1 << 30, 0x7001, PROTECTION | OF_STORE);
        }
        dataRefused(Code.ext(23, 3, 4, 5), 6, 0x7002, NOT_FOUND);
        dataRefused(Code.ext(87, 3, 4, 5), 6, 0x7002, NOT_FOUND);
        dataRefused(Code.ext(151, 3, 4, 5), 5, 0x7003, PROTECTION | OF_STORE);
        dataRefused(Code.ext(215, 3, 4, 5), 5, 0x7003, PROTECTION | OF_STORE);
    }

    private void dataRefused(int instruction, int segment, int second, int dsisr) {
        String what = "refused " + Integer.toHexString(instruction);
        Bench bench = bench(Bench.DR | Bench.EE | 6, second).spec(34, segment).reg(5, 8).mem(0x7008, 44);
        bench.spec(Bench.DSISR, -1).spec(Bench.CR, 3).fail(256, instruction);
        bench.isException(what, 768, 256, Bench.DR | Bench.EE | 6).isSpec(what, Bench.MSR, 6);
        bench.isSpec(what, Bench.DAR, 0x20000008).isSpec(what, Bench.DSISR, dsisr).isSpec(what, Bench.CR, 3);
        bench.isReg(what, 3, 0x99AABBCC).isReg(what, 4, 0x20000000).isMem(what, 0x7008, 44);
    }

    private void refusalMarksNothing() {
        Bench bench = bench(Bench.DR, 0x7003).fail(256, Code.imm(36, 3, 4, 0));
        bench.isMem("a refused store", ENTRY, 0x7003);
    }

    /** A fetch marks its entry even when its instruction ends in an exception. */
    private void marksStay() {
        Bench bench = bench(Bench.IR | Bench.DR, 0x7002).mem(0x7010, 0).spec(Bench.PC, 0x20000010);
        check.due("not listed", bench.p.step(1), 1);
        bench.isException("not listed", 1792, 0x20000010, Bench.NOT_LISTED | Bench.IR | Bench.DR);
        bench.isMem("not listed", ENTRY, 0x7002 | USED);
        Bench data = bench(Bench.IR | Bench.DR, 0x7002).mem(0x7010, Code.imm(32, 6, 0, 64)).spec(Bench.PC, 0x20000010);
        check.due("load refused", data.p.step(1), 1);
        data.isMem("load refused", ENTRY, 0x7002 | USED).isSpec("load refused", Bench.DSISR, NOT_FOUND);
    }

    /** The page that is mapped holds the table itself. */
    private void markBeforeAccess() {
        Bench load = bench(Bench.DR, TABLE | 2).run(256, Code.imm(32, 6, 4, 4));
        load.isReg("the entry that maps itself", 6, TABLE | 2 | USED);
        Bench part = bench(Bench.DR, TABLE | 2).reg(3, 0x55).run(256, Code.imm(38, 3, 4, 4));
        part.isMem("a byte of the entry that maps itself", ENTRY, 0x55000000 | TABLE | 2 | USED | CHANGED);
        Bench word = bench(Bench.DR, TABLE | 2).run(256, Code.imm(36, 3, 4, 4));
        word.isMem("the entry that maps itself, stored", ENTRY, 0x99AABBCC);
        int branch = TABLE | 2 | 19 << 26;
        Bench fetch = bench(Bench.IR, branch).spec(Bench.PC, 0x20000004).spec(Bench.LR, 512);
        check.due("the entry fetched", fetch.p.step(1), 1);
        fetch.isMem("the entry fetched", ENTRY, branch | USED);
        int call = TABLE | 2 | 17 << 26;
        Bench system = bench(Bench.IR, call).spec(Bench.PC, 0x20000004);
        check.due("the entry is a call", system.p.step(1), 1);
        system.isException("the entry is a call", 3072, 0x20000008, Bench.IR);
    }

    private void storeIntoTable() {
        Bench bench = bench(0, 0x7002).reg(7, TABLE).reg(8, 0x6002).run(256, Code.imm(36, 8, 7, 4));
        bench.spec(Bench.MSR, Bench.DR).run(256, Code.imm(36, 3, 4, 0));
        bench.isMem("the new entry counts", 0x6000, 0x99AABBCC).isMem("the new entry counts", 0x7000, 0);
    }

    private void segmentChangedByProgram() {
        Bench bench = bench(Bench.DR, 0x7002).spec(34, 0).reg(9, 5).run(256, Code.ext(210, 9, 2, 0));
        bench.run(256, Code.imm(36, 3, 4, 0)).isMem("after X 210", 0x7000, 0x99AABBCC);
        bench.reg(9, 0).run(256, Code.ext(146, 9, 0, 0)).run(256, Code.imm(32, 6, 4, 256));
        bench.isReg("after X 146", 6, Code.imm(32, 6, 4, 256));
    }
}
