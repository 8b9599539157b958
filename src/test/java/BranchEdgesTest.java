/** The edges of the branches, of the call and return, and of the work on CR bits: one method a sentence. */
public final class BranchEdgesTest {
    private static final int MIN = Integer.MIN_VALUE;
    private static final int MAX = Integer.MAX_VALUE;
    private static final int NEXT = Twins.START + 4;

    private final Check check = new Check();

    public static void main(String[] args) {
        BranchEdgesTest test = new BranchEdgesTest();
        test.nearTargets();
        test.farTargets();
        test.targetsThatWrap();
        test.branchToItself();
        test.linkAlways();
        test.linkThatWraps();
        test.countsDown();
        test.countNotAsked();
        test.conditionAsked();
        test.conditionAndCount();
        test.returnsToOldLink();
        test.toCounter();
        test.systemCall();
        test.systemCallAtTheTop();
        test.returnFromException();
        test.bitsOfConditions();
        test.bitOntoItself();
        test.nothing();
        test.check.end();
    }

    private Twins twins(String what) {
        return new Twins(check, what);
    }

    /** "16: branch ... to (S & ~3), counted from PC, or from 0 if bit 1 of i is 1." */
    private void nearTargets() {
        for (int s : new int[] {0, 4, 8, -4, 32764, -32768}) {
            twins("16 by " + s).run(Code.imm(16, 20, 0, s)).dueSpec(Bench.PC, Twins.START + s).same();
            twins("16 to " + s).run(Code.imm(16, 20, 0, s | 2)).dueSpec(Bench.PC, s).same();
            twins("16 by " + s + " and link").run(Code.imm(16, 20, 0, s | 1)).dueSpec(Bench.PC, Twins.START + s)
                    .dueSpec(Bench.LR, NEXT).same();
            twins("16 to " + s + " and link").run(Code.imm(16, 20, 0, s | 3)).dueSpec(Bench.PC, s)
                    .dueSpec(Bench.LR, NEXT).same();
        }
    }

    /** "18: branch to the bits 25 .. 2 of i, bit 25 being the sign and counted likewise." */
    private void farTargets() {
        for (int by : new int[] {0, 4, -4, 32768, 0x1FFFFFC, -0x2000000, -0x1FFFFFC}) {
            twins("18 by " + by).run(Code.jump(by)).dueSpec(Bench.PC, Twins.START + by).same();
            twins("18 to " + by).run(Code.jump(by | 2)).dueSpec(Bench.PC, by).same();
            twins("18 by " + by + " and link").run(Code.jump(by | 1)).dueSpec(Bench.PC, Twins.START + by)
                    .dueSpec(Bench.LR, NEXT).same();
            twins("18 to " + by + " and link").run(Code.jump(by | 3)).dueSpec(Bench.PC, by)
                    .dueSpec(Bench.LR, NEXT).same();
        }
    }

    /** PC and what is counted from it have 32 bits, and wrap. */
    private void targetsThatWrap() {
        twins("on over the top").mem(-8, Code.jump(16)).spec(Bench.PC, -8).step().dueSpec(Bench.PC, 8).same();
        twins("back below 0").mem(4, Code.jump(-8)).spec(Bench.PC, 4).step().dueSpec(Bench.PC, -4).same();
        twins("16 on over the top").mem(-4, Code.imm(16, 20, 0, 4)).spec(Bench.PC, -4).step()
                .dueSpec(Bench.PC, 0).same();
        twins("16 from MAX to MIN").mem(0x7FFFFFFC, Code.imm(16, 20, 0, 32764)).spec(Bench.PC, 0x7FFFFFFC).step()
                .dueSpec(Bench.PC, MIN + 32760).same();
    }

    /** A branch by 0 stays where it is, step for step. */
    private void branchToItself() {
        MappedProcessor p = new MappedProcessor();
        p.write(16, Code.jump(0));
        p.set(0, 64);
        check.due("50 steps on the spot", p.step(50), 0);
        check.due("PC on the spot", p.special(0), 64);
        check.due("steps on the spot", p.steps(), 50);
    }

    /** "If bit 0 of i is 1, LR becomes PC + 4 (also if the branch is not taken)." */
    private void linkAlways() {
        twins("16 not taken").spec(Bench.CR, 0).run(Code.imm(16, 12, 0, 65)).dueSpec(Bench.LR, NEXT).same();
        twins("16 not taken, no link").spec(Bench.CR, 0).run(Code.imm(16, 12, 0, 64)).same();
        twins("X 16 not taken").spec(Bench.CR, 0).run(Code.cond(16, 12, 0, 0) | 1).dueSpec(Bench.LR, NEXT).same();
        twins("X 16 not taken, no link").spec(Bench.CR, 0).run(Code.cond(16, 12, 0, 0)).same();
        twins("X 528 not taken").spec(Bench.CR, 0).run(Code.cond(528, 12, 0, 0) | 1).dueSpec(Bench.LR, NEXT).same();
        twins("X 528 not taken, no link").spec(Bench.CR, 0).run(Code.cond(528, 12, 0, 0)).same();
        twins("16 not taken by CTR").spec(Bench.CTR, 1).run(Code.imm(16, 16, 0, 65)).dueSpec(Bench.LR, NEXT)
                .dueSpec(Bench.CTR, 0).same();
    }

    /** LR becomes PC + 4 with all its 32 bits, and wraps. */
    private void linkThatWraps() {
        twins("link at the top").mem(-4, Code.jump(65)).spec(Bench.PC, -4).step().dueSpec(Bench.PC, 60)
                .dueSpec(Bench.LR, 0).same();
        twins("link above 16 bits").mem(0x12340000, Code.jump(65)).spec(Bench.PC, 0x12340000).step()
                .dueSpec(Bench.PC, 0x12340040).dueSpec(Bench.LR, 0x12340004).same();
    }

    /** "CTR becomes CTR - 1, and it is taken only if CTR is then not 0 (bit 1 of D is 0) or 0 (bit 1 of D is 1)". */
    private void countsDown() {
        for (int ctr : new int[] {0, 1, 2, MIN, MAX, -1}) {
            boolean zero = ctr == 1;
            for (int bit = 0; bit < 2; bit++) {
                int to = zero ? Twins.START + 64 : NEXT;
                int toNot = zero ? NEXT : Twins.START + 64;
                twins("16, D 16, CTR " + ctr).spec(Bench.CTR, ctr).run(Code.imm(16, 16 | bit, 0, 64))
                        .dueSpec(Bench.CTR, ctr - 1).dueSpec(Bench.PC, toNot).same();
                twins("16, D 18, CTR " + ctr).spec(Bench.CTR, ctr).run(Code.imm(16, 18 | bit, 0, 64))
                        .dueSpec(Bench.CTR, ctr - 1).dueSpec(Bench.PC, to).same();
                twins("X 16, D 16, CTR " + ctr).spec(Bench.CTR, ctr).spec(Bench.LR, Twins.START + 64)
                        .run(Code.cond(16, 16 | bit, 0, 0)).dueSpec(Bench.CTR, ctr - 1)
                        .dueSpec(Bench.PC, toNot).same();
            }
        }
        twins("CTR 0 wraps").spec(Bench.CTR, 0).run(Code.imm(16, 16, 0, 64)).dueSpec(Bench.CTR, -1)
                .dueSpec(Bench.PC, Twins.START + 64).same();
    }

    /** "if bit 2 of D is 0": with 1, CTR stays and is not asked. */
    private void countNotAsked() {
        for (int ctr : new int[] {0, 1, -1}) {
            for (int d : new int[] {20, 21, 22, 23, 28, 30}) {
                twins("16, D " + d + ", CTR " + ctr).spec(Bench.CTR, ctr).run(Code.imm(16, d, 0, 64))
                        .dueSpec(Bench.PC, Twins.START + 64).same();
            }
        }
    }

    /** "if bit 4 of D is 0, it is taken only if CR bit A is equal to bit 3 of D." */
    private void conditionAsked() {
        for (int a : new int[] {0, 1, 15, 16, 30, 31}) {
            for (int others = 0; others < 4; others++) {
                conditionAsked(a, others);
            }
        }
    }

    /** With the lowest two bits of D as told, which do not count here. */
    private void conditionAsked(int a, int others) {
        int alone = 1 << 31 - a;
        twins("bit " + a + " asked for 1, is 1").spec(Bench.CR, alone).run(Code.imm(16, 12 | others, a, 64))
                .dueSpec(Bench.PC, Twins.START + 64).same();
        twins("bit " + a + " asked for 1, is 0").spec(Bench.CR, ~alone).run(Code.imm(16, 12 | others, a, 64)).same();
        twins("bit " + a + " asked for 0, is 0").spec(Bench.CR, ~alone).run(Code.imm(16, 4 | others, a, 64))
                .dueSpec(Bench.PC, Twins.START + 64).same();
        twins("bit " + a + " asked for 0, is 1").spec(Bench.CR, alone).run(Code.imm(16, 4 | others, a, 64)).same();
        twins("bit " + a + " not asked").spec(Bench.CR, ~alone).run(Code.imm(16, 28 | others, a, 64))
                .dueSpec(Bench.PC, Twins.START + 64).same();
        twins("bit " + a + " not asked").spec(Bench.CR, alone).run(Code.imm(16, 20 | others, a, 64))
                .dueSpec(Bench.PC, Twins.START + 64).same();
    }

    /** Both are asked: CTR goes down even when the CR bit forbids the branch. */
    private void conditionAndCount() {
        for (int cr = 0; cr < 2; cr++) {
            for (int ctr = 1; ctr < 3; ctr++) {
                boolean taken = cr == 1 && ctr == 2;
                twins("D 8, CR bit " + cr + ", CTR " + ctr).spec(Bench.CR, cr << 31).spec(Bench.CTR, ctr)
                        .run(Code.imm(16, 8, 0, 64)).dueSpec(Bench.CTR, ctr - 1)
                        .dueSpec(Bench.PC, taken ? Twins.START + 64 : NEXT).same();
                boolean other = cr == 0 && ctr == 1;
                twins("D 2, CR bit " + cr + ", CTR " + ctr).spec(Bench.CR, cr << 31).spec(Bench.CTR, ctr)
                        .run(Code.imm(16, 2, 0, 64)).dueSpec(Bench.CTR, ctr - 1)
                        .dueSpec(Bench.PC, other ? Twins.START + 64 : NEXT).same();
            }
        }
    }

    /** "19, X 16: branch by D and A to LR & ~3 (as LR was before)". */
    private void returnsToOldLink() {
        for (int lr : new int[] {0, 3, 0x800, 0x801, MIN, -1}) {
            twins("X 16 to " + lr).spec(Bench.LR, lr).run(Code.cond(16, 20, 0, 0)).dueSpec(Bench.PC, lr & ~3).same();
            twins("X 16 to " + lr + " and link").spec(Bench.LR, lr).run(Code.cond(16, 20, 0, 0) | 1)
                    .dueSpec(Bench.PC, lr & ~3).dueSpec(Bench.LR, NEXT).same();
        }
    }

    /** "X 528: to CTR & ~3, bit 2 of D being taken for 1": CTR neither goes down nor is asked. */
    private void toCounter() {
        for (int ctr : new int[] {0, 1, 2, 3, 0x803, MIN, -1}) {
            for (int d : new int[] {16, 18, 20, 22, 31}) {
                twins("X 528 to " + ctr + " by " + d).spec(Bench.CTR, ctr).run(Code.cond(528, d, 0, 0))
                        .dueSpec(Bench.PC, ctr & ~3).same();
            }
        }
        twins("X 528 with its bit").spec(Bench.CTR, 0x801).spec(Bench.CR, 1).run(Code.cond(528, 8, 31, 0) | 1)
                .dueSpec(Bench.PC, 0x800).dueSpec(Bench.LR, NEXT).same();
        twins("X 528 without its bit").spec(Bench.CTR, 1).spec(Bench.CR, ~1).run(Code.cond(528, 8, 31, 0)).same();
    }

    /** "17: exception 3072, x = 0, with SRR0 = PC + 4.": whatever its other bits are. */
    private void systemCall() {
        for (int low : new int[] {0, 1, 2, 3, 0x3FFFFFF}) {
            twins("17 with " + low).spec(Bench.MSR, 0xFFDF).fail(17 << 26 | low, 3072, 0).dueSpec(Bench.SRR0, NEXT)
                    .dueSpec(Bench.SRR1, 0xFFDF).dueSpec(Bench.MSR, 0x3FCF).same();
        }
    }

    private void systemCallAtTheTop() {
        twins("17 at the top").mem(-4, 17 << 26).spec(Bench.PC, -4).failStep(3072, 0).dueSpec(Bench.SRR0, 0).same();
        twins("17 at its own vector").mem(3072, 17 << 26).spec(Bench.PC, 3072).failStep(3072, 0)
                .dueSpec(Bench.SRR0, 3076).same();
    }

    /** "X 50 #: MSR becomes SRR1 & 65535, PC SRR0 & ~3." */
    private void returnFromException() {
        for (int srr1 : new int[] {0, 1, 65535, 65536, 0x7FFF8001, -1}) {
            for (int srr0 : new int[] {0, 3, 0x803, MIN, -1}) {
                twins("X 50 to " + srr0 + " with " + srr1).spec(Bench.SRR0, srr0).spec(Bench.SRR1, srr1)
                        .run(Code.cond(50, 0, 0, 0)).dueSpec(Bench.MSR, srr1 & 65535)
                        .dueSpec(Bench.PC, srr0 & ~3).same();
            }
        }
        twins("X 50 with bit 0").spec(Bench.SRR0, 8).spec(Bench.SRR1, 2).run(Code.cond(50, 31, 31, 31) | 1)
                .dueSpec(Bench.MSR, 2).dueSpec(Bench.PC, 8).same();
        twins("X 50 in PROBLEM").spec(Bench.MSR, Bench.PROBLEM).fail(Code.cond(50, 0, 0, 0), 1792, 1 << 18).same();
    }

    /** "X 257, 449, 193: CR bit D becomes CR bit A and, or, exclusive or CR bit B." */
    private void bitsOfConditions() {
        int[] ends = {0, 31, 16};
        for (int a = 0; a < 2; a++) {
            for (int b = 0; b < 2; b++) {
                for (int d = 0; d < 2; d++) {
                    for (int k = 0; k < 3; k++) {
                        bits(ends[k], ends[(k + 1) % 3], ends[(k + 2) % 3], d, a, b);
                    }
                }
            }
        }
    }

    /** The CR bits D, A and B with their values, all others 0 and all others 1. */
    private void bits(int nd, int na, int nb, int d, int a, int b) {
        int places = 1 << 31 - nd | 1 << 31 - na | 1 << 31 - nb;
        int cr = d << 31 - nd | a << 31 - na | b << 31 - nb;
        for (int others : new int[] {0, ~places}) {
            int rest = others | a << 31 - na | b << 31 - nb;
            String what = " of " + a + " and " + b + " to " + nd;
            twins("257" + what).spec(Bench.CR, others | cr).run(Code.cond(257, nd, na, nb))
                    .dueSpec(Bench.CR, rest | (a & b) << 31 - nd).same();
            twins("449" + what).spec(Bench.CR, others | cr).run(Code.cond(449, nd, na, nb))
                    .dueSpec(Bench.CR, rest | (a | b) << 31 - nd).same();
            twins("193" + what).spec(Bench.CR, others | cr).run(Code.cond(193, nd, na, nb) | 1)
                    .dueSpec(Bench.CR, rest | (a ^ b) << 31 - nd).same();
        }
    }

    /** D, A and B that are one bit, or two of them. */
    private void bitOntoItself() {
        for (int n : new int[] {0, 31}) {
            int place = 1 << 31 - n;
            twins("193 clears").spec(Bench.CR, -1).run(Code.cond(193, n, n, n)).dueSpec(Bench.CR, ~place).same();
            twins("257 keeps").spec(Bench.CR, place).run(Code.cond(257, n, n, n)).same();
            twins("449 keeps").spec(Bench.CR, ~place).run(Code.cond(449, n, n, n)).same();
            twins("193 turns").spec(Bench.CR, place | 1 << 16).run(Code.cond(193, n, n, 15))
                    .dueSpec(Bench.CR, 1 << 16).same();
        }
    }

    /** "X 150: nothing." */
    private void nothing() {
        for (int rest : new int[] {0, 1, 0x3FFF800, 0x3FFF801}) {
            twins("X 150").run(Code.cond(150, 0, 0, 0) | rest).same();
        }
    }
}
