import java.util.function.Consumer;

/** The edges of promises 1 to 11: a method for each sentence that names one. */
public final class CallEdgesTest {
    private static final int MIN = Integer.MIN_VALUE;
    private static final int MAX = Integer.MAX_VALUE;
    private static final int ADD_ONE = Code.imm(14, 1, 1, 1);
    private static final int CALL = 17 << 26;

    /** Words outside; four times some of them is, in 32 bits or in the lowest 16, an address inside. */
    private static final int[] NO_WORDS = {-1, 16384, 16385, -16384, 32768, 65535, 65536, 1 << 30, MIN, MAX};
    private static final int[] NO_GENERALS = {-1, 32, 33, -32, 64, 65536, MIN, MAX};
    private static final int[] NO_SPECIALS = {-1, 11, 12, 13, 14, 15, 48, 49, 63, 64, 80, -16, 65536, MIN, MAX};
    private static final int[] NO_COUNTS = {0, -1, 51, 52, -50, 256 + 1, 65536 + 1, MIN, MIN + 1, MAX};
    private static final int[] NO_WAYS = {-1, 3, 4, -2, -3, 256, 65536 + 1, MIN, MAX};

    private final Check check = new Check();

    public static void main(String[] args) {
        CallEdgesTest test = new CallEdgesTest();
        test.newObject();
        test.writeAtTheEdges();
        test.writeIsAtFourTimesItsNumber();
        test.wordOutside();
        test.putAtTheEdges();
        test.generalOutside();
        test.setAtTheEdges();
        test.setAllBits();
        test.setOfPc();
        test.specialOutside();
        test.stepAtTheEdges();
        test.stepCountsExceptions();
        test.translateOfNoWay();
        test.translateChangesNothing();
        test.translateGivesLowestBits();
        test.vectorOfNone();
        test.vectorOfTheLatest();
        test.stepsCountAll();
        test.refusedCallsChangeNothing();
        test.readingChangesNothing();
        test.lastOf512Calls();
        test.check.end();
    }

    /** "All registers and all memory 0." */
    private void newObject() {
        for (int from = 0; from < 16384; from += 512) {
            MappedProcessor p = new MappedProcessor();
            for (int w = from; w < from + 512; w++) {
                check.due("new word " + w, p.word(w), 0);
            }
        }
        MappedProcessor p = new MappedProcessor();
        for (int k = 0; k < 48; k++) {
            check.due("new general " + k, p.general(k), 0);
            check.due("new special " + k, p.special(k), 0);
        }
    }

    /** "Answers true; false, refused, when w is not 0 .. 16383." */
    private void writeAtTheEdges() {
        MappedProcessor p = new MappedProcessor();
        for (int w : new int[] {0, 1, 16382, 16383}) {
            check.due("write " + w, p.write(w, MIN + w), true);
            check.due("word " + w, p.word(w), MIN + w);
        }
        for (int w : NO_WORDS) {
            check.due("write " + w, p.write(w, 77), false);
        }
        check.due("first word", p.word(0), MIN);
        check.due("last word", p.word(16383), MIN + 16383);
    }

    /** "Word w of memory (that at the address 4 * w) becomes v." */
    private void writeIsAtFourTimesItsNumber() {
        for (int w : new int[] {0, 1, 8191, 8192, 16382, 16383}) {
            new Twins(check, "word " + w).mem(4 * w, 0xCAFE0000 + w).reg(4, 4 * w).run(Code.imm(32, 3, 4, 0))
                    .dueReg(3, 0xCAFE0000 + w).same();
        }
    }

    /** "Word w of memory; 0 when w is not 0 .. 16383." */
    private void wordOutside() {
        MappedProcessor p = new MappedProcessor();
        p.write(0, -1);
        p.write(1, -1);
        p.write(16383, -1);
        for (int w : NO_WORDS) {
            check.due("word " + w, p.word(w), 0);
        }
        check.due("word 0", p.word(0), -1);
        check.due("word 16383", p.word(16383), -1);
    }

    /** "General register r becomes v. Answers true; false, refused, when r is not 0 .. 31." */
    private void putAtTheEdges() {
        MappedProcessor p = new MappedProcessor();
        for (int r : new int[] {0, 1, 30, 31}) {
            check.due("put " + r, p.put(r, MAX - r), true);
            check.due("general " + r, p.general(r), MAX - r);
        }
        for (int r : NO_GENERALS) {
            check.due("put " + r, p.put(r, 77), false);
        }
        check.due("r0", p.general(0), MAX);
        check.due("r31", p.general(31), MAX - 31);
    }

    /** "General register r; 0 when r is not 0 .. 31." */
    private void generalOutside() {
        MappedProcessor p = new MappedProcessor();
        for (int r = 0; r < 32; r++) {
            p.put(r, -1);
        }
        for (int r : NO_GENERALS) {
            check.due("general " + r, p.general(r), 0);
        }
        check.due("general 0", p.general(0), -1);
        check.due("general 31", p.general(31), -1);
    }

    /** "Answers true; false, refused, when there is none with this number." */
    private void setAtTheEdges() {
        MappedProcessor p = new MappedProcessor();
        for (int s : new int[] {0, 10, 16, 23, 24, 31, 32, 47}) {
            check.due("set " + s, p.set(s, 4 * s + 400), true);
        }
        for (int s : NO_SPECIALS) {
            check.due("set " + s, p.set(s, 77), false);
        }
        for (int s : new int[] {0, 10, 16, 23, 24, 31, 32, 47}) {
            check.due("special " + s, p.special(s), 4 * s + 400);
        }
    }

    /** "Special register s becomes v, all its bits". */
    private void setAllBits() {
        MappedProcessor p = new MappedProcessor();
        for (int s = 1; s < 48; s++) {
            if (Twins.isSpecial(s)) {
                p.set(s, -1);
                check.due("all bits of special " + s, p.special(s), -1);
                p.set(s, MIN + 1);
                check.due("the first and last bit of special " + s, p.special(s), MIN + 1);
            }
        }
    }

    /** "(PC: v & ~3)". */
    private void setOfPc() {
        MappedProcessor p = new MappedProcessor();
        int[] values = {0, 1, 2, 3, 4, 7, -1, -4, MIN + 3, MAX, 65535, 65536};
        for (int v : values) {
            check.due("set(0, " + v + ")", p.set(0, v), true);
            check.due("PC after " + v, p.special(0), v & ~3);
        }
    }

    /** "Special register s; 0 when there is none with this number." */
    private void specialOutside() {
        MappedProcessor p = new MappedProcessor();
        for (int s = 0; s < 64; s++) {
            p.set(s, -1);
        }
        for (int s : NO_SPECIALS) {
            check.due("special " + s, p.special(s), 0);
        }
        check.due("special 10", p.special(10), -1);
        check.due("special 16", p.special(16), -1);
        check.due("special 47", p.special(47), -1);
    }

    /** "NONE, refused, when n is not 1 .. 50." */
    private void stepAtTheEdges() {
        for (int n : new int[] {1, 2, 49, 50}) {
            MappedProcessor p = withAdditions();
            check.due("step " + n, p.step(n), 0);
            check.due("r1 after step " + n, p.general(1), n);
            check.due("PC after step " + n, p.special(0), 4 * n);
            check.due("steps after step " + n, p.steps(), n);
        }
        MappedProcessor p = withAdditions();
        for (int n : NO_COUNTS) {
            check.due("step " + n, p.step(n), MappedProcessor.NONE);
            check.due("r1 after step " + n, p.general(1), 0);
            check.due("steps after step " + n, p.steps(), 0);
        }
    }

    private static MappedProcessor withAdditions() {
        MappedProcessor p = new MappedProcessor();
        for (int w = 0; w < 60; w++) {
            p.write(w, ADD_ONE);
        }
        return p;
    }

    /** "Answers how many of them ended in an exception": none, one, each, and each call anew. */
    private void stepCountsExceptions() {
        MappedProcessor p = withAdditions();
        check.due("none of 50", p.step(50), 0);
        p.set(0, 0);
        p.write(49, CALL);
        check.due("the last of 50", p.step(50), 1);
        check.due("PC after the last", p.special(0), 3072);
        check.due("each of 50", p.step(50), 50);
        check.due("each of one", p.step(1), 1);
        p.set(0, 0);
        p.write(0, CALL);
        p.write(768, Code.cond(50, 0, 0, 0));
        check.due("the first of two", p.step(2), 1);
        check.due("none before the next call", p.step(47), 0);
        check.due("then the one at its end", p.step(2), 1);
    }

    /** "-4 when way is not 0 .. 2." */
    private void translateOfNoWay() {
        for (int msr : new int[] {0, Bench.IR | Bench.DR, -1}) {
            MappedProcessor p = new MappedProcessor();
            p.set(1, msr);
            for (int way : NO_WAYS) {
                check.due("translate for " + way, p.translate(12, way), -4);
                check.due("translate for " + way, p.translate(-1, way), -4);
            }
            for (int way = 0; way < 3; way++) {
                check.due("translate for " + way, p.translate(12, way), msr == 0 ? 12 : -1);
            }
        }
    }

    /** "No entry of the page table is changed." */
    private void translateChangesNothing() {
        for (int way = 0; way < 3; way++) {
            Twins twins = new Twins(check, "translate for " + way).spec(Bench.SDR1, 0x8000).spec(34, 5);
            twins.spec(Bench.MSR, Bench.IR | Bench.DR).mem(0x8000, (1 << 31) + 128 * 5).mem(0x8004, 0x7002);
            check.due("translate for " + way, twins.made.translate(0x20000004, way), 0x7004);
            check.due("translate again for " + way, twins.made.translate(0x20000004, way), 0x7004);
            twins.same();
        }
    }

    /** "The address e translated for a way ..., the lowest 16 bits of it". */
    private void translateGivesLowestBits() {
        MappedProcessor p = new MappedProcessor();
        for (int way = 0; way < 3; way++) {
            check.due("all bits", p.translate(-1, way), 65535);
            check.due("bit 16", p.translate(65536, way), 0);
            check.due("bit 15", p.translate(32768, way), 32768);
            check.due("the least", p.translate(MIN, way), 0);
            check.due("the greatest", p.translate(MAX, way), 65535);
        }
    }

    /** "0 when there was none." */
    private void vectorOfNone() {
        MappedProcessor p = withAdditions();
        check.due("vector at first", p.vector(), 0);
        p.step(50);
        check.due("vector after good steps", p.vector(), 0);
        p.step(51);
        p.step(0);
        p.translate(1, 3);
        p.set(0, 1792);
        check.due("vector after refused calls", p.vector(), 0);
    }

    /** "The vector of the latest exception": of the five, and not the greatest or the first. */
    private void vectorOfTheLatest() {
        MappedProcessor p = new MappedProcessor();
        p.write(0, CALL);
        p.write(1, Code.imm(32, 3, 0, 0x1002));
        p.write(2, Code.imm(32, 3, 0, 0x1000));
        due(p, 0, 0, 3072);
        due(p, 4, 0, 1536);
        due(p, 12, 0, 1792);
        due(p, 8, Bench.DR, 768);
        due(p, 8, Bench.IR, 1024);
        p.set(0, 8);
        p.step(1);
        check.due("a good step leaves the latest", p.vector(), 1024);
    }

    private void due(MappedProcessor p, int pc, int msr, int vector) {
        p.set(0, pc);
        p.set(1, msr);
        check.due("step to " + vector, p.step(1), 1);
        check.due("the latest vector", p.vector(), vector);
        check.due("PC at the vector", p.special(0), vector);
    }

    /** "How many steps were made, those that ended in an exception included." */
    private void stepsCountAll() {
        MappedProcessor p = withAdditions();
        check.due("steps at first", p.steps(), 0);
        p.step(1);
        check.due("steps after one", p.steps(), 1);
        p.step(50);
        check.due("steps after 51", p.steps(), 51);
        p.set(0, 0x8000);
        p.step(50);
        check.due("steps after 50 exceptions", p.steps(), 101);
        p.step(51);
        p.step(-1);
        p.translate(0, 0);
        p.write(0, 0);
        check.due("steps after other calls", p.steps(), 101);
    }

    /** "A call that is refused changes nothing.": neither registers nor any word of memory. */
    private void refusedCallsChangeNothing() {
        for (int from = 0; from < 16384; from += 256) {
            sameWords("refused calls", from, CallEdgesTest::callAllThatIsRefused);
        }
        Twins twins = new Twins(check, "refused calls").mem(Twins.START, ADD_ONE);
        callAllThatIsRefused(twins.made);
        twins.same();
    }

    private static void callAllThatIsRefused(MappedProcessor p) {
        for (int w : NO_WORDS) {
            p.write(w, 0x77777777);
        }
        for (int r : NO_GENERALS) {
            p.put(r, 0x77777777);
        }
        for (int s : NO_SPECIALS) {
            p.set(s, 0x77777777);
        }
        for (int n : NO_COUNTS) {
            p.step(n);
        }
        for (int way : NO_WAYS) {
            p.translate(8, way);
        }
    }

    /** The calls that only read, with good and with wrong numbers. */
    private void readingChangesNothing() {
        Twins twins = new Twins(check, "reading").mem(Twins.START, ADD_ONE).spec(Bench.MSR, Bench.IR | Bench.DR);
        for (int k : new int[] {0, 5, 31, 47, 16383, 16384, -1, MIN, MAX}) {
            twins.made.word(k);
            twins.made.general(k);
            twins.made.special(k);
            twins.made.translate(k, k & 3);
            twins.made.vector();
            twins.made.steps();
        }
        twins.same();
    }

    /** Some words are written first, so that it would show if the calls made them 0. */
    private void sameWords(String what, int from, Consumer<MappedProcessor> calls) {
        MappedProcessor p = new MappedProcessor();
        for (int w = from; w < from + 256; w += 4) {
            p.write(w, ~w);
        }
        calls.accept(p);
        for (int w = from; w < from + 256; w++) {
            check.due(what + ": word " + w, p.word(w), w % 4 == 0 ? ~w : 0);
        }
    }

    /** "An object is used for at most 512 calls after it has been made": the last is as good as the first. */
    private void lastOf512Calls() {
        MappedProcessor p = new MappedProcessor();
        p.write(0, ADD_ONE);
        p.write(1, Code.jump(-4));
        for (int call = 3; call < 512; call++) {
            check.due("step 50, call " + call, p.step(50), 0);
        }
        check.due("call 512", p.general(1), 509 * 25);
        MappedProcessor q = new MappedProcessor();
        for (int call = 1; call < 512; call++) {
            check.due("50 exceptions, call " + call, q.step(50), 50);
        }
        check.due("call 512", q.steps(), 511 * 50);
    }
}
