import java.util.TreeSet;

/**
 * Two processors in one state: the first makes steps, the second is told by hand what the document says of
 * them. Then all registers and many words of both are compared, so nothing can change that should not.
 */
final class Twins {
    static final int START = 0x400;

    /** Bits of MSR that mean nothing, some of them above the lowest 16. */
    static final int PLAIN = 0x00070F0F;

    private static final int CLEARED = Bench.PROBLEM | Bench.IR | Bench.DR | Bench.EE;

    final MappedProcessor made = new MappedProcessor();
    private final MappedProcessor told = new MappedProcessor();
    private final Check check;
    private final String what;
    private final TreeSet<Integer> words = new TreeSet<>();
    private int vector;
    private int steps;

    Twins(Check check, String what) {
        this.check = check;
        this.what = what;
        for (int r = 0; r < 32; r++) {
            reg(r, 0x10203040 + 0x01010101 * r);
        }
        for (int s = 0; s < 48; s++) {
            if (isSpecial(s)) {
                spec(s, 0x01000100 * s);
            }
        }
        spec(Bench.PC, START).spec(Bench.MSR, PLAIN).spec(Bench.CR, 0x5A5A5A5A).spec(Bench.XER, 0x5A);
        for (int w = 7; w < 16384; w += 512) {
            words.add(w);
        }
    }

    static boolean isSpecial(int s) {
        return s >= 0 && s <= 10 || s >= 16 && s <= 47;
    }

    Twins reg(int r, int v) {
        made.put(r, v);
        return dueReg(r, v);
    }

    Twins spec(int s, int v) {
        made.set(s, v);
        return dueSpec(s, v);
    }

    Twins mem(int address, int v) {
        made.write((address & 65535) >>> 2, v);
        return dueMem(address, v);
    }

    Twins dueReg(int r, int v) {
        told.put(r, v);
        return this;
    }

    Twins dueSpec(int s, int v) {
        told.set(s, v);
        return this;
    }

    Twins dueMem(int address, int v) {
        int w = (address & 65535) >>> 2;
        told.write(w, v);
        words.add(Math.max(w - 1, 0));
        words.add(w);
        words.add(Math.min(w + 1, 16383));
        return this;
    }

    /** One step of the instruction at START, which ends well and goes on to the next. */
    Twins run(int instruction) {
        return mem(START, instruction).spec(Bench.PC, START).step();
    }

    /** One step of what PC tells, which ends well and goes on to the next. */
    Twins step() {
        steps++;
        check.due(what + ": step", made.step(1), 0);
        return dueSpec(Bench.PC, told.special(Bench.PC) + 4);
    }

    /** One step of the instruction at START, which ends in an exception. */
    Twins fail(int instruction, int due, int bits) {
        return mem(START, instruction).spec(Bench.PC, START).failStep(due, bits);
    }

    /** One step of what PC tells, which ends in an exception. */
    Twins failStep(int due, int bits) {
        steps++;
        vector = due;
        check.due(what + ": step", made.step(1), 1);
        int msr = told.special(Bench.MSR);
        dueSpec(Bench.SRR0, told.special(Bench.PC)).dueSpec(Bench.SRR1, (msr & 65535) + bits);
        return dueSpec(Bench.MSR, msr & ~CLEARED).dueSpec(Bench.PC, due);
    }

    /** The field 0 that a recorded result leaves, and all else of CR as it is. */
    Twins dueRecord(int result) {
        int order = result < 0 ? 8 : result > 0 ? 4 : 2;
        int summary = told.special(Bench.XER) >>> 31;
        return dueSpec(Bench.CR, (order | summary) << 28 | told.special(Bench.CR) & 0x0FFFFFFF);
    }

    Twins dueCarry(boolean carry) {
        int xer = told.special(Bench.XER);
        return dueSpec(Bench.XER, carry ? xer | Bench.CA : xer & ~Bench.CA);
    }

    void same() {
        for (int r = 0; r < 32; r++) {
            check.due(what + ": r" + r, made.general(r), told.general(r));
        }
        for (int s = 0; s < 48; s++) {
            if (isSpecial(s)) {
                check.due(what + ": special " + s, made.special(s), told.special(s));
            }
        }
        for (int w : words) {
            check.due(what + ": word " + w, made.word(w), told.word(w));
        }
        check.due(what + ": vector", made.vector(), vector);
        check.due(what + ": steps", made.steps(), steps);
    }
}
