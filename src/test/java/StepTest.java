/** Promises 8, 10 and 11: what step, vector and steps answer, whatever the instructions are. */
public final class StepTest {
    private static final int ADD_ONE = Code.imm(14, 1, 1, 1);
    private static final int CALL = 17 << 26;

    private final Check check = new Check();

    public static void main(String[] args) {
        StepTest test = new StepTest();
        test.refusals();
        test.counts();
        test.exceptionsAreCounted();
        test.programAnswersException();
        test.programCounterWraps();
        test.check.end();
    }

    private void refusals() {
        Bench bench = new Bench(check).mem(0, ADD_ONE);
        for (int n : new int[] {0, -1, 51, 52, 100, Integer.MIN_VALUE, Integer.MAX_VALUE}) {
            check.due("step " + n, bench.p.step(n), MappedProcessor.NONE);
        }
        check.due("steps after refusals", bench.p.steps(), 0);
        check.due("vector after refusals", bench.p.vector(), 0);
        bench.isReg("refused", 1, 0).isSpec("refused", Bench.PC, 0);
    }

    private void counts() {
        Bench bench = new Bench(check);
        for (int k = 0; k < 60; k++) {
            bench.mem(4 * k, ADD_ONE);
        }
        check.due("step 1", bench.p.step(1), 0);
        bench.isReg("step 1", 1, 1).isSpec("step 1", Bench.PC, 4);
        check.due("step 50", bench.p.step(50), 0);
        bench.isReg("step 50", 1, 51).isSpec("step 50", Bench.PC, 204);
        check.due("steps", bench.p.steps(), 51);
        check.due("vector", bench.p.vector(), 0);
    }

    private void exceptionsAreCounted() {
        Bench bench = new Bench(check);
        check.due("nothing but zeros", bench.p.step(50), 50);
        check.due("steps with exceptions", bench.p.steps(), 50);
        check.due("vector", bench.p.vector(), 1792);
        bench.mem(0, ADD_ONE).mem(4, CALL).mem(3072, ADD_ONE).mem(3076, 0).spec(Bench.PC, 0);
        check.due("one call among three", bench.p.step(3), 1);
        check.due("vector of the call", bench.p.vector(), 3072);
        check.due("the latest counts", bench.p.step(1), 1);
        check.due("vector of the latest", bench.p.vector(), 1792);
        bench.run(0, ADD_ONE);
        check.due("vector stays", bench.p.vector(), 1792);
        check.due("steps in all", bench.p.steps(), 55);
    }

    private void programAnswersException() {
        Bench bench = new Bench(check).spec(Bench.MSR, Bench.PROBLEM | Bench.EE);
        bench.mem(0, CALL).mem(4, ADD_ONE).mem(8, ADD_ONE);
        bench.mem(3072, Code.imm(14, 2, 2, 7)).mem(3076, Code.cond(50, 0, 0, 0));
        check.due("call and answer", bench.p.step(5), 1);
        bench.isReg("after the answer", 1, 2).isReg("after the answer", 2, 7);
        bench.isSpec("after the answer", Bench.PC, 12);
        bench.isSpec("after the answer", Bench.MSR, Bench.PROBLEM | Bench.EE);
    }

    private void programCounterWraps() {
        Bench bench = new Bench(check).mem(65532, ADD_ONE).spec(Bench.PC, -4);
        check.due("step at the top", bench.p.step(1), 0);
        bench.isReg("step at the top", 1, 1).isSpec("step at the top", Bench.PC, 0);
        bench.mem(8, ADD_ONE).spec(Bench.PC, 0x7FFF0008);
        check.due("an address counts by its lowest 16 bits", bench.p.step(1), 0);
        bench.isReg("high PC", 1, 2).isSpec("high PC", Bench.PC, 0x7FFF000C);
    }
}
