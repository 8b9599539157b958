/** Promise 8: the branches, the work on CR bits, and the call of the system with the way back. */
public final class BranchTest {
    private final Check check = new Check();

    public static void main(String[] args) {
        BranchTest test = new BranchTest();
        test.jumps();
        test.conditions();
        test.targets();
        test.links();
        test.conditionBits();
        test.systemCall();
        test.returns();
        test.nothing();
        test.check.end();
    }

    private void jump(int from, int low, int to, int link) {
        String what = "OP 18 from " + from + " by " + low;
        Bench bench = new Bench(check).spec(Bench.LR, 9).spec(Bench.CTR, 5).spec(Bench.CR, -1);
        bench.run(from, Code.jump(low)).isSpec(what, Bench.PC, to).isSpec(what, Bench.LR, link);
        bench.isSpec(what, Bench.CTR, 5).isSpec(what, Bench.CR, -1);
    }

    private void jumps() {
        jump(256, 64, 320, 9);
        jump(256, -64, 192, 9);
        jump(256, 65, 320, 260);
        jump(256, 66, 64, 9);
        jump(256, 67, 64, 260);
        jump(256, -61, -64, 260);
        jump(256, 0, 256, 9);
        jump(256, 0x1FFFFFC, 0x20000FC, 9);
        jump(256, 0x2000000, 256 - 0x2000000, 9);
        jump(256, 0x2000002, -0x2000000, 9);
        jump(0, -4, -4, 9);
        jump(65532, 8, 65540, 9);
    }

    private static boolean taken(int d, int count, boolean bit) {
        boolean counts = (d & 4) != 0 || (d & 2) == 0 == (count != 1);
        return counts && ((d & 16) != 0 || bit == ((d & 8) != 0));
    }

    /** Every D with CTR that becomes 0 or does not, and with the CR bit 0 and 1. */
    private void conditions() {
        for (int d = 0; d < 32; d++) {
            for (int count = 0; count < 3; count++) {
                for (int n : new int[] {0, 1, 7, 18, 30, 31}) {
                    condition(d, count, n, true);
                    condition(d, count, n, false);
                }
            }
        }
    }

    private void condition(int d, int count, int n, boolean bit) {
        String what = "D " + d + " CTR " + count + " bit " + n + " " + bit;
        int cr = bit ? 1 << 31 - n : ~(1 << 31 - n);
        int counted = (d & 4) == 0 ? count - 1 : count;
        boolean due = taken(d, count, bit);
        Bench near = new Bench(check).spec(Bench.CTR, count).spec(Bench.CR, cr).spec(Bench.LR, 8);
        near.run(256, Code.imm(16, d, n, 128)).isSpec("OP 16 " + what, Bench.PC, due ? 384 : 260);
        near.isSpec("OP 16 " + what, Bench.CTR, counted).isSpec("OP 16 " + what, Bench.CR, cr);
        near.isSpec("OP 16 " + what, Bench.LR, 8);

        Bench back = new Bench(check).spec(Bench.CTR, count).spec(Bench.CR, cr).spec(Bench.LR, 1027);
        back.run(256, Code.cond(16, d, n, 0)).isSpec("X 16 " + what, Bench.PC, due ? 1024 : 260);
        back.isSpec("X 16 " + what, Bench.CTR, counted).isSpec("X 16 " + what, Bench.LR, 1027);

        boolean without = (d & 16) != 0 || bit == ((d & 8) != 0);
        Bench far = new Bench(check).spec(Bench.CTR, count + 512).spec(Bench.CR, cr);
        far.run(256, Code.cond(528, d, n, 0)).isSpec("X 528 " + what, Bench.PC, without ? 512 : 260);
        far.isSpec("X 528 " + what, Bench.CTR, count + 512).isSpec("X 528 " + what, Bench.LR, 0);
    }

    private void targets() {
        Bench bench = new Bench(check);
        bench.run(256, Code.imm(16, 20, 0, -256)).isSpec("back to 0", Bench.PC, 0);
        bench.run(256, Code.imm(16, 20, 0, 32764)).isSpec("farthest on", Bench.PC, 33020);
        bench.run(256, Code.imm(16, 20, 0, -32768)).isSpec("farthest back", Bench.PC, -32512);
        bench.run(256, Code.imm(16, 20, 0, 514)).isSpec("absolute", Bench.PC, 512);
        bench.run(256, Code.imm(16, 20, 0, -510)).isSpec("absolute below 0", Bench.PC, -512);
        bench.spec(Bench.CTR, -1).run(256, Code.cond(528, 20, 0, 0)).isSpec("CTR & ~3", Bench.PC, -4);
        bench.spec(Bench.LR, -1).run(256, Code.cond(16, 20, 0, 0)).isSpec("LR & ~3", Bench.PC, -4);
    }

    private void links() {
        for (int d : new int[] {20, 4}) {
            String what = "link with D " + d;
            boolean due = d == 20;
            Bench bench = new Bench(check).spec(Bench.CR, -1).spec(Bench.LR, 512).spec(Bench.CTR, 1024);
            bench.run(256, Code.imm(16, d, 0, 65)).isSpec(what, Bench.PC, due ? 320 : 260);
            bench.isSpec(what, Bench.LR, 260).spec(Bench.LR, 512);
            bench.run(256, Code.cond(16, d, 0, 0) | 1).isSpec(what, Bench.PC, due ? 512 : 260);
            bench.isSpec(what, Bench.LR, 260).spec(Bench.LR, 512);
            bench.run(256, Code.cond(528, d, 0, 0) | 1).isSpec(what, Bench.PC, due ? 1024 : 260);
            bench.isSpec(what, Bench.LR, 260).isSpec(what, Bench.CTR, 1024);
        }
    }

    private void conditionBits() {
        int[] xs = {257, 449, 193};
        for (int both = 0; both < 4; both++) {
            int first = both >> 1;
            int second = both & 1;
            int[] wants = {first & second, first | second, first ^ second};
            for (int k = 0; k < 3; k++) {
                for (int to : new int[] {0, 15, 31}) {
                    String what = "X " + xs[k] + " of " + first + " " + second + " to " + to;
                    int cr = first << 31 - 3 | second << 31 - 20;
                    int place = 1 << 31 - to;
                    Bench bench = new Bench(check).spec(Bench.CR, cr).run(0, Code.cond(xs[k], to, 3, 20));
                    bench.isSpec(what, Bench.CR, cr & ~place | wants[k] * place).isSpec(what, Bench.PC, 4);
                    int rest = ~(1 << 31 - 3 | 1 << 31 - 20);
                    bench.spec(Bench.CR, cr | rest).run(0, Code.cond(xs[k], to, 3, 20));
                    bench.isSpec(what, Bench.CR, (cr | rest) & ~place | wants[k] * place);
                }
            }
        }
        Bench same = new Bench(check).spec(Bench.CR, -1).run(0, Code.cond(193, 9, 9, 9));
        same.isSpec("a bit and itself", Bench.CR, ~(1 << 22));
        same.run(0, Code.cond(257, 9, 0, 1) | 1).isSpec("no link", Bench.LR, 0).isSpec("no link", Bench.CR, -1);
    }

    private void systemCall() {
        int msr = 0x12340000 | Bench.EE | Bench.PROBLEM | 0x1F0F;
        Bench bench = new Bench(check).spec(Bench.MSR, msr).fail(256, 17 << 26 | 2);
        bench.isException("OP 17", 3072, 260, msr & 65535).isSpec("OP 17", Bench.MSR, 0x12341F0F);
        Bench top = new Bench(check).mem(65532, 17 << 26).spec(Bench.PC, -4);
        check.due("OP 17 at the top", top.p.step(1), 1);
        top.isException("OP 17 at the top", 3072, 0, 0);
    }

    private void returns() {
        Bench bench = new Bench(check).spec(Bench.SRR0, 1027).spec(Bench.SRR1, 0x7FFFC000);
        bench.spec(Bench.MSR, ~(Bench.PROBLEM | Bench.IR));
        bench.run(256, Code.cond(50, 0, 0, 0)).isSpec("X 50", Bench.PC, 1024).isSpec("X 50", Bench.MSR, 0xC000);
        bench.isSpec("X 50", Bench.SRR0, 1027).isSpec("X 50", Bench.SRR1, 0x7FFFC000).isSpec("X 50", Bench.LR, 0);
        bench.fail(256, Code.cond(50, 0, 0, 0)).isException("X 50 in PROBLEM", 1792, 256, Bench.PRIVILEGED | 0xC000);
        bench.isSpec("X 50 in PROBLEM", Bench.MSR, 0);
    }

    private void nothing() {
        Bench bench = new Bench(check).spec(Bench.MSR, Bench.PROBLEM).spec(Bench.CR, 5).spec(Bench.LR, 6);
        bench.run(256, Code.cond(150, 31, 31, 31) | 1).isSpec("X 150", Bench.PC, 260).isSpec("X 150", Bench.CR, 5);
        bench.isSpec("X 150", Bench.LR, 6).isReg("X 150", 31, 0);
        for (int x : new int[] {0, 17, 33, 129, 225, 289, 417, 51, 1023, 529, 151}) {
            Bench bad = new Bench(check).spec(Bench.CR, 5).spec(Bench.CTR, 64).fail(256, Code.cond(x, 20, 0, 0) | 1);
            bad.isException("OP 19 X " + x, 1792, 256, Bench.NOT_LISTED).isSpec("OP 19 X " + x, Bench.CR, 5);
            bad.isSpec("OP 19 X " + x, Bench.LR, 0);
        }
    }
}
