/** One processor, and short ways to bring it into a state and to ask for what came of it. */
final class Bench {
    static final int PC = 0;
    static final int MSR = 1;
    static final int CR = 2;
    static final int XER = 3;
    static final int LR = 4;
    static final int CTR = 5;
    static final int SRR0 = 6;
    static final int SRR1 = 7;
    static final int DSISR = 8;
    static final int DAR = 9;
    static final int SDR1 = 10;

    static final int PROBLEM = 1 << 14;
    static final int EE = 1 << 15;
    static final int IR = 1 << 5;
    static final int DR = 1 << 4;
    static final int SO = 1 << 31;
    static final int CA = 1 << 29;

    static final int NOT_LISTED = 1 << 19;
    static final int PRIVILEGED = 1 << 18;
    static final int TRAP = 1 << 17;

    final MappedProcessor p = new MappedProcessor();
    final Check check;

    Bench(Check check) {
        this.check = check;
    }

    Bench reg(int r, int v) {
        p.put(r, v);
        return this;
    }

    Bench spec(int s, int v) {
        p.set(s, v);
        return this;
    }

    Bench mem(int address, int v) {
        p.write(address >>> 2, v);
        return this;
    }

    /** Writes the instruction at the address, goes there, and makes one step that is to end well. */
    Bench run(int address, int instruction) {
        return start(address, instruction, 0);
    }

    /** The same with a step that is to end in an exception. */
    Bench fail(int address, int instruction) {
        return start(address, instruction, 1);
    }

    private Bench start(int address, int instruction, int exceptions) {
        mem(address, instruction).spec(PC, address);
        check.due("step of " + Integer.toHexString(instruction), p.step(1), exceptions);
        return this;
    }

    Bench isReg(String what, int r, int want) {
        check.due(what + " r" + r, p.general(r), want);
        return this;
    }

    Bench isSpec(String what, int s, int want) {
        check.due(what + " special " + s, p.special(s), want);
        return this;
    }

    Bench isMem(String what, int address, int want) {
        check.due(what + " word at " + address, p.word(address >>> 2), want);
        return this;
    }

    /** What every exception leaves: its vector, and where and how it came about. */
    Bench isException(String what, int vector, int srr0, int srr1) {
        check.due(what + " vector", p.vector(), vector);
        return isSpec(what, PC, vector).isSpec(what, SRR0, srr0).isSpec(what, SRR1, srr1);
    }
}
