/** Promise 8: the instructions that load and store, without translation. */
public final class AccessTest {
    private static final int DATA = 0x8091A2B3;
    private static final int VALUE = 0xC4D5E6F7;

    private final Check check = new Check();

    public static void main(String[] args) {
        AccessTest test = new AccessTest();
        test.loads();
        test.stores();
        test.indexed();
        test.addresses();
        test.updates();
        test.updatesThatAreNotListed();
        test.alignment();
        test.ownInstruction();
        test.check.end();
    }

    private void load(int op, int low, int want) {
        String what = "OP " + op + " at " + low;
        Bench bench = new Bench(check).mem(4096, DATA).mem(4100, 0x7F017F02).reg(4, 4096).spec(Bench.CR, 3);
        bench.run(0, Code.imm(op, 3, 4, low)).isReg(what, 3, want).isMem(what, 4096, DATA);
        bench.isReg(what, 4, op == 33 || op == 35 ? 4096 + low : 4096).isSpec(what, Bench.PC, 4);
        bench.isSpec(what, Bench.CR, 3);
    }

    private void loads() {
        for (int op = 32; op <= 33; op++) {
            load(op, 0, DATA);
            load(op, 4, 0x7F017F02);
        }
        for (int op = 34; op <= 35; op++) {
            load(op, 0, 0x80);
            load(op, 1, 0x91);
            load(op, 2, 0xA2);
            load(op, 3, 0xB3);
            load(op, 4, 0x7F);
        }
        load(40, 0, 0x8091);
        load(40, 2, 0xA2B3);
        load(40, 4, 0x7F01);
        load(42, 0, 0xFFFF8091);
        load(42, 2, 0xFFFFA2B3);
        load(42, 6, 0x7F02);
    }

    private void store(int op, int low, int want) {
        String what = "OP " + op + " at " + low;
        Bench bench = new Bench(check).mem(4092, 1).mem(4096, DATA).mem(4100, 2).reg(3, VALUE).reg(4, 4096);
        bench.run(0, Code.imm(op, 3, 4, low)).isMem(what, 4096, want).isReg(what, 3, VALUE);
        bench.isMem(what, 4092, 1).isMem(what, 4100, 2).isSpec(what, Bench.PC, 4);
        bench.isReg(what, 4, op == 37 || op == 39 ? 4096 + low : 4096);
    }

    private void stores() {
        for (int op = 36; op <= 37; op++) {
            store(op, 0, VALUE);
        }
        for (int op = 38; op <= 39; op++) {
            store(op, 0, 0xF791A2B3);
            store(op, 1, 0x80F7A2B3);
            store(op, 2, 0x8091F7B3);
            store(op, 3, 0x8091A2F7);
        }
        store(44, 0, 0xE6F7A2B3);
        store(44, 2, 0x8091E6F7);
    }

    private void indexed() {
        Bench bench = new Bench(check).mem(4096, DATA).reg(3, VALUE).reg(4, 4000).reg(5, 96).reg(0, 44);
        bench.run(0, Code.dot(23, 6, 4, 5)).isReg("X 23", 6, DATA).isReg("X 23", 4, 4000);
        bench.isSpec("X 23", Bench.CR, 0).reg(5, 98).run(0, Code.ext(87, 6, 4, 5)).isReg("X 87", 6, 0xA2);
        bench.run(0, Code.dot(215, 3, 4, 5)).isMem("X 215", 4096, 0x8091F7B3).isReg("X 215", 4, 4000);
        bench.reg(5, 96).run(0, Code.ext(151, 3, 4, 5)).isMem("X 151", 4096, VALUE);
        bench.reg(5, 4096).run(0, Code.ext(23, 6, 0, 5)).isReg("X 23 with A 0", 6, VALUE);
        bench.run(0, Code.ext(87, 6, 0, 5)).isReg("X 87 with A 0", 6, 0xC4);
        bench.mem(4096, 0).run(0, Code.ext(215, 3, 0, 5)).isMem("X 215 with A 0", 4096, 0xF7000000);
        bench.run(0, Code.ext(151, 3, 0, 5)).isMem("X 151 with A 0", 4096, VALUE);
        bench.reg(4, 4052).run(0, Code.ext(23, 6, 4, 0)).isReg("B 0 is register 0", 6, VALUE);
        bench.reg(4, 4000).reg(5, 96).run(0, Code.ext(23, 4, 4, 5)).isReg("D is A", 4, VALUE);
    }

    private void addresses() {
        Bench bench = new Bench(check).mem(65532, DATA).mem(32768, VALUE).reg(0, 12).reg(4, 8);
        bench.run(0, Code.imm(32, 3, 4, -12)).isReg("below 0", 3, DATA);
        bench.run(0, Code.imm(32, 3, 0, -4)).isReg("A 0", 3, DATA);
        bench.run(0, Code.imm(32, 3, 0, -32768)).isReg("S with its sign", 3, VALUE);
        bench.reg(4, 0x12340000).run(0, Code.imm(32, 3, 4, -4)).isReg("only 16 bits count", 3, DATA);
        bench.reg(3, 55).run(0, Code.imm(36, 3, 4, -32768)).isMem("store", 32768, 55);
        bench.run(0, Code.imm(38, 3, 0, -1)).isMem("last byte", 65532, DATA & ~255 | 55);
        bench.run(0, Code.imm(44, 3, 0, -4)).isMem("half word", 65532, 55 << 16 | 0xA237);
    }

    private void updates() {
        Bench bench = new Bench(check).mem(4096, DATA).reg(4, 4100).reg(3, VALUE);
        bench.run(0, Code.imm(37, 4, 4, -4)).isMem("store of its own base", 4096, 4100);
        bench.isReg("store of its own base", 4, 4096);
        bench.reg(4, 0x70001003).run(0, Code.imm(39, 4, 4, -3)).isMem("byte of its own base", 4096, 0x03001004);
        bench.isReg("the whole address goes into a", 4, 0x70001000);
        bench.reg(0, 5).run(0, Code.imm(33, 0, 4, 0)).isReg("D 0", 0, 0x03001004);
        bench.reg(4, -4).run(0, Code.imm(33, 3, 4, 4)).isReg("address wraps", 4, 0);
    }

    private void updatesThatAreNotListed() {
        for (int op : new int[] {33, 35, 37, 39}) {
            for (int msr : new int[] {0, Bench.PROBLEM}) {
                Bench bench = new Bench(check).reg(3, VALUE).reg(0, 4097).spec(Bench.MSR, msr).mem(4096, DATA);
                bench.fail(256, Code.imm(op, 3, 0, 4097)).isMem("OP " + op + " with A 0", 4096, DATA);
                bench.isException("OP " + op + " with A 0", 1792, 256, Bench.NOT_LISTED | msr);
                bench.isReg("OP " + op + " with A 0", 3, VALUE).isReg("OP " + op + " with A 0", 0, 4097);
                bench.isSpec("OP " + op + " with A 0", Bench.DAR, 0);
            }
        }
        for (int op : new int[] {33, 35}) {
            Bench bench = new Bench(check).reg(3, 4097).mem(4096, DATA).fail(256, Code.imm(op, 3, 3, 0));
            bench.isException("OP " + op + " with A = D", 1792, 256, Bench.NOT_LISTED);
            bench.isReg("OP " + op + " with A = D", 3, 4097);
        }
        Bench plain = new Bench(check).reg(3, 4096).mem(4096, DATA).run(256, Code.imm(32, 3, 3, 0));
        plain.isReg("OP 32 with A = D", 3, DATA);
        for (int op : new int[] {0, 1, 2, 4, 5, 6, 9, 22, 30, 41, 43, 45, 46, 47, 48, 54, 62, 63}) {
            Bench bad = new Bench(check).reg(3, VALUE).reg(4, 4096).fail(256, Code.imm(op, 3, 4, 0));
            bad.isException("OP " + op, 1792, 256, Bench.NOT_LISTED).isReg("OP " + op, 3, VALUE);
            bad.isReg("OP " + op, 4, 4096).isMem("OP " + op, 4096, 0);
        }
    }

    private void alignment() {
        for (int low = 1; low < 4; low++) {
            for (int op : new int[] {32, 33, 36, 37}) {
                unaligned(Code.imm(op, 3, 4, low), low);
            }
            unaligned(Code.ext(23, 3, 4, 5), low);
            unaligned(Code.ext(151, 3, 4, 5), low);
        }
        for (int op : new int[] {40, 42, 44}) {
            unaligned(Code.imm(op, 3, 4, 1), 1);
            unaligned(Code.imm(op, 3, 4, 3), 3);
        }
    }

    /** With DR on and nothing mapped, so that it shows that this is looked at before the translation. */
    private void unaligned(int instruction, int low) {
        String what = "unaligned " + Integer.toHexString(instruction);
        Bench bench = new Bench(check).reg(3, VALUE).reg(4, 0x20001000).reg(5, low).mem(4096, DATA);
        bench.spec(Bench.DSISR, 6).spec(Bench.MSR, Bench.DR | Bench.EE | 8).fail(256, instruction);
        bench.isException(what, 1536, 256, Bench.DR | Bench.EE | 8).isSpec(what, Bench.DAR, 0x20001000 + low);
        bench.isSpec(what, Bench.DSISR, 6).isSpec(what, Bench.MSR, 8).isReg(what, 3, VALUE);
        bench.isReg(what, 4, 0x20001000).isMem(what, 4096, DATA);
    }

    private void ownInstruction() {
        Bench bench = new Bench(check).reg(3, Code.imm(14, 7, 0, 77));
        bench.run(0, Code.imm(36, 3, 0, 4));
        check.due("a stored instruction", bench.p.step(1), 0);
        bench.isReg("a stored instruction", 7, 77);
    }
}
