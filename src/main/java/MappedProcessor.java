/**
 * A processor with thirty-two registers and 64 KB of memory that takes its instructions from memory, and
 * whose addresses go through blocks, segments and a hashed page table; what is not allowed ends in an
 * exception that a program can answer.
 */
public final class MappedProcessor {
    public static final int NONE = -1;

    private static final int MOST_STEPS = 50;
    private static final int WORDS = 16384;
    private static final int GENERALS = 32;
    private static final int LOW_HALF = 65535;

    // The numbers of the special registers.
    private static final int PC = 0;
    private static final int MSR = 1;
    private static final int CR = 2;
    private static final int XER = 3;
    private static final int LR = 4;
    private static final int CTR = 5;
    private static final int SRR0 = 6;
    private static final int SRR1 = 7;
    private static final int DSISR = 8;
    private static final int DAR = 9;
    private static final int SDR1 = 10;
    private static final int INSTRUCTION_BLOCKS = 16;
    private static final int DATA_BLOCKS = 24;
    private static final int SEGMENTS = 32;
    private static final int SPECIALS = 48;

    // The bits of MSR and XER.
    private static final int EE = 1 << 15;
    private static final int PROBLEM = 1 << 14;
    private static final int IR = 1 << 5;
    private static final int DR = 1 << 4;
    private static final int CA = 1 << 29;

    // The ways of a translation, and what it answers when it gives no address.
    private static final int FETCH = 0;
    private static final int LOAD = 1;
    private static final int STORE = 2;
    private static final int NOT_FOUND = -1;
    private static final int PROTECTION = -2;
    private static final int NO_EXECUTE = -3;
    private static final int NO_WAY = -4;

    // The vectors of the exceptions, and the bits that tell their cause.
    private static final int DATA_VECTOR = 768;
    private static final int FETCH_VECTOR = 1024;
    private static final int ALIGNMENT_VECTOR = 1536;
    private static final int PROGRAM_VECTOR = 1792;
    private static final int CALL_VECTOR = 3072;
    private static final int NOT_FOUND_BIT = 1 << 30;
    private static final int NO_EXECUTE_BIT = 1 << 28;
    private static final int PROTECTION_BIT = 1 << 27;
    private static final int STORE_BIT = 1 << 25;
    private static final int NOT_LISTED_BIT = 1 << 19;
    private static final int PRIVILEGED_BIT = 1 << 18;
    private static final int TRAP_BIT = 1 << 17;

    private final Memory memory;
    private final State state;
    private final Mapper mapper;
    private final Instruction instruction;
    private final Comparisons comparisons;
    private final Arithmetic arithmetic;
    private final Logic logic;
    private final Branches branches;
    private final Control control;
    private final Accesses accesses;

    public MappedProcessor() {
        memory = new Memory();
        state = new State();
        mapper = new Mapper(memory, state);
        instruction = new Instruction();
        comparisons = new Comparisons(state);
        arithmetic = new Arithmetic(state);
        logic = new Logic(state);
        branches = new Branches(state);
        control = new Control(state);
        accesses = new Accesses(memory, state, mapper);
    }

    public boolean write(int w, int v) {
        if (w < 0 || w >= WORDS) {
            return false;
        }
        memory.keep(4 * w, v);
        return true;
    }

    public int word(int w) {
        return w < 0 || w >= WORDS ? 0 : memory.at(4 * w);
    }

    public boolean put(int r, int v) {
        if (r < 0 || r >= GENERALS) {
            return false;
        }
        state.keepRegister(r, v);
        return true;
    }

    public int general(int r) {
        return r < 0 || r >= GENERALS ? 0 : state.register(r);
    }

    public boolean set(int s, int v) {
        if (!isSpecial(s)) {
            return false;
        }
        state.keep(s, s == PC ? v & ~3 : v);
        return true;
    }

    public int special(int s) {
        return isSpecial(s) ? state.read(s) : 0;
    }

    public int step(int n) {
        if (n < 1 || n > MOST_STEPS) {
            return NONE;
        }
        int before = state.exceptions();
        for (int k = 0; k < n; k++) {
            state.begin();
            if (fetches() && !performs()) {
                state.raise(PROGRAM_VECTOR, NOT_LISTED_BIT);
            }
            state.finish();
        }
        return state.exceptions() - before;
    }

    public int translate(int e, int way) {
        return way < FETCH || way > STORE ? NO_WAY : mapper.locate(e, way);
    }

    public int vector() {
        return state.latestVector();
    }

    public int steps() {
        return state.stepsMade();
    }

    private static boolean isSpecial(int s) {
        return (s >= PC && s <= SDR1) || (s >= INSTRUCTION_BLOCKS && s < SPECIALS);
    }

    private static int causeBit(int refusal) {
        if (refusal == NOT_FOUND) {
            return NOT_FOUND_BIT;
        }
        return refusal == PROTECTION ? PROTECTION_BIT : NO_EXECUTE_BIT;
    }

    private boolean fetches() {
        int at = mapper.locate(state.read(PC), FETCH);
        if (at < 0) {
            state.raise(FETCH_VECTOR, causeBit(at));
            return false;
        }
        mapper.mark(FETCH);
        instruction.take(memory.at(at));
        return true;
    }

    /** Answers false, with nothing changed, for an instruction that the document does not list. */
    private boolean performs() {
        Instruction i = instruction;
        switch (i.op) {
            case 3:
            case 10:
            case 11:
                return comparisons.runsImmediate(i);
            case 7:
            case 8:
            case 12:
            case 13:
            case 14:
            case 15:
                return arithmetic.runsImmediate(i);
            case 16:
            case 17:
            case 18:
                return branches.runs(i);
            case 19:
                return branches.runsExtended(i);
            case 20:
            case 21:
            case 23:
                return logic.runsRotation(i);
            case 24:
            case 25:
            case 26:
            case 27:
            case 28:
            case 29:
                return logic.runsImmediate(i);
            case 31:
                return comparisons.runsExtended(i) || arithmetic.runsExtended(i) || logic.runsExtended(i)
                        || logic.runsShift(i) || control.runs(i) || accesses.runsIndexed(i);
            default:
                return accesses.runs(i);
        }
    }

    /** The words of memory; every address counts by its lowest 16 bits, so none lies outside. */
    private static final class Memory {
        private final int[] words;

        Memory() {
            words = new int[WORDS];
        }

        int at(int address) {
            return words[(address & LOW_HALF) >>> 2];
        }

        void keep(int address, int v) {
            words[(address & LOW_HALF) >>> 2] = v;
        }

        int part(int address, int size) {
            return (at(address) >>> shift(address, size)) & mask(size);
        }

        void keepPart(int address, int size, int v) {
            int shift = shift(address, size);
            int mask = mask(size);
            keep(address, (at(address) & ~(mask << shift)) | ((v & mask) << shift));
        }

        /** The highest byte of a word comes first, so the first address is the one moved farthest. */
        private static int shift(int address, int size) {
            return 8 * (4 - size - (address & 3));
        }

        private static int mask(int size) {
            return size == 4 ? -1 : (1 << (8 * size)) - 1;
        }
    }

    /** The registers, and what is counted of the steps. */
    private static final class State {
        private final int[] generals;
        private final int[] specials;
        private int next;
        private int latestVector;
        private int stepsMade;
        private int exceptions;

        State() {
            generals = new int[GENERALS];
            // 64 and not 48: so a mask keeps every index inside.
            specials = new int[64];
        }

        int register(int r) {
            return generals[r & 31];
        }

        void keepRegister(int r, int v) {
            generals[r & 31] = v;
        }

        /** For the operands in which the number 0 does not mean register 0 but nothing. */
        int registerOrZero(int r) {
            return r == 0 ? 0 : register(r);
        }

        int read(int s) {
            return specials[s & 63];
        }

        void keep(int s, int v) {
            specials[s & 63] = v;
        }

        boolean has(int s, int bits) {
            return (specials[s & 63] & bits) != 0;
        }

        int latestVector() {
            return latestVector;
        }

        int stepsMade() {
            return stepsMade;
        }

        int exceptions() {
            return exceptions;
        }

        void begin() {
            stepsMade++;
            next = specials[PC] + 4;
        }

        /** PC changes only here, so that a whole step sees the PC of its instruction. */
        void finish() {
            specials[PC] = next;
        }

        void goTo(int address) {
            next = address;
        }

        void raise(int vector, int bits) {
            specials[SRR0] = specials[PC];
            specials[SRR1] = (specials[MSR] & LOW_HALF) + bits;
            specials[MSR] &= ~(PROBLEM | IR | DR | EE);
            next = vector;
            latestVector = vector;
            exceptions++;
        }

        /** Answers whether PROBLEM forbids the instruction; if it does, the exception is made. */
        boolean refusesPrivileged() {
            if (!has(MSR, PROBLEM)) {
                return false;
            }
            raise(PROGRAM_VECTOR, PRIVILEGED_BIT);
            return true;
        }

        int carry() {
            return has(XER, CA) ? 1 : 0;
        }

        void keepCarry(boolean set) {
            specials[XER] = set ? specials[XER] | CA : specials[XER] & ~CA;
        }

        /** The order is less than, more than or equal to 0, as x is to y. */
        void keepOrder(int field, int order) {
            int less = order < 0 ? 8 : 0;
            int greater = order > 0 ? 4 : 0;
            int equal = order == 0 ? 2 : 0;
            int summary = specials[XER] >>> 31;
            int shift = 28 - 4 * field;
            int bits = less | greater | equal | summary;
            specials[CR] = (specials[CR] & ~(15 << shift)) | (bits << shift);
        }

        void keepResult(int r, int result, boolean recorded) {
            generals[r & 31] = result;
            if (recorded) {
                keepOrder(0, result);
            }
        }

        int conditionBit(int n) {
            return (specials[CR] >>> (31 - n)) & 1;
        }

        void keepConditionBit(int n, int bit) {
            int place = 31 - n;
            specials[CR] = (specials[CR] & ~(1 << place)) | ((bit & 1) << place);
        }
    }

    /** The parts of one instruction; one object serves all steps. */
    private static final class Instruction {
        int bits;
        int op;
        int d;
        int a;
        int b;
        int x;
        int s;
        int u;

        void take(int i) {
            bits = i;
            op = i >>> 26;
            d = i >> 21 & 31;
            a = i >> 16 & 31;
            b = i >> 11 & 31;
            x = i >> 1 & 1023;
            s = (short) i;
            u = i & LOW_HALF;
        }

        boolean has(int bit) {
            return (bits & bit) != 0;
        }
    }

    /** Translation of addresses. */
    private static final class Mapper {
        private static final int BLOCK_BITS = ~8191;
        private static final int PAGE_BITS = ~4095;
        private static final int SEGMENT_NO_EXECUTE = 1 << 28;
        private static final int SEGMENT_PROBLEM_KEY = 1 << 29;
        private static final int SEGMENT_KEY = 1 << 30;
        private static final int ENTRY_VALID = 1 << 31;
        private static final int ENTRY_SECOND = 64;
        private static final int ENTRY_USED = 1 << 8;
        private static final int ENTRY_CHANGED = 1 << 7;

        private final Memory memory;
        private final State state;
        private int entry;

        Mapper(Memory memory, State state) {
            this.memory = memory;
            this.state = state;
            entry = NONE;
        }

        /** The lowest 16 bits of the translated address, or NOT_FOUND, PROTECTION or NO_EXECUTE. */
        int locate(int e, int way) {
            entry = NONE;
            if (!state.has(MSR, way == FETCH ? IR : DR)) {
                return e & LOW_HALF;
            }
            int block = matchingBlock(e, way);
            if (block != NONE) {
                return throughBlock(e, way, block);
            }
            int s = state.read(SEGMENTS + (e >>> 28));
            if (s < 0) {
                return NOT_FOUND;
            }
            if (way == FETCH && (s & SEGMENT_NO_EXECUTE) != 0) {
                return NO_EXECUTE;
            }
            int found = findEntry(s & 16777215, e >>> 12 & LOW_HALF);
            return found == NONE ? NOT_FOUND : throughEntry(e, way, s, found);
        }

        /** Only a step marks the entry of its translation, so this stands apart from locate. */
        void mark(int way) {
            if (entry != NONE) {
                int marks = way == STORE ? ENTRY_USED | ENTRY_CHANGED : ENTRY_USED;
                memory.keep(entry, memory.at(entry) | marks);
            }
        }

        private int matchingBlock(int e, int way) {
            int first = way == FETCH ? INSTRUCTION_BLOCKS : DATA_BLOCKS;
            int valid = state.has(MSR, PROBLEM) ? 1 : 2;
            for (int k = 0; k < 4; k++) {
                int upper = state.read(first + 2 * k);
                if ((upper & valid) != 0 && ((e ^ upper) & BLOCK_BITS & ~freeBits(upper)) == 0) {
                    return first + 2 * k;
                }
            }
            return NONE;
        }

        private static int freeBits(int upper) {
            return (upper >> 2 & 2047) << 13;
        }

        private int throughBlock(int e, int way, int block) {
            int lower = state.read(block + 1);
            int p = lower & 3;
            if (p == 0 || way == STORE && p != 2) {
                return PROTECTION;
            }
            int fixed = BLOCK_BITS & ~freeBits(state.read(block));
            return ((lower & fixed) | (e & ~fixed)) & LOW_HALF;
        }

        /** The address of the second word of the entry that counts. */
        private int findEntry(int v, int i) {
            int h = (v & 524287) ^ i;
            int first = ENTRY_VALID + 128 * v + (i >>> 10);
            int sdr1 = state.read(SDR1);
            for (int k = 0; k < 16; k++) {
                int group = k < 8 ? h : ~h;
                int due = k < 8 ? first : first + ENTRY_SECOND;
                int address = (sdr1 & 64512) + 64 * (group & sdr1 & 15) + 8 * (k & 7);
                if (memory.at(address) == due) {
                    return address + 4;
                }
            }
            return NONE;
        }

        private int throughEntry(int e, int way, int s, int found) {
            int w = memory.at(found);
            int keyBit = state.has(MSR, PROBLEM) ? SEGMENT_PROBLEM_KEY : SEGMENT_KEY;
            if (refuses(w & 3, way, (s & keyBit) != 0)) {
                return PROTECTION;
            }
            entry = found;
            return ((w & PAGE_BITS) | (e & ~PAGE_BITS)) & LOW_HALF;
        }

        private static boolean refuses(int p, int way, boolean key) {
            if (key && p == 0) {
                return true;
            }
            return way == STORE && (p == 3 || key && p == 1);
        }
    }

    /** The instructions that compare or trap. */
    private static final class Comparisons {
        private final State state;

        Comparisons(State state) {
            this.state = state;
        }

        boolean runsImmediate(Instruction i) {
            int a = state.register(i.a);
            switch (i.op) {
                case 3:
                    trap(i.d, a, i.s);
                    return true;
                case 10:
                    state.keepOrder(i.d >> 2, Integer.compareUnsigned(a, i.u));
                    return true;
                case 11:
                    state.keepOrder(i.d >> 2, Integer.compare(a, i.s));
                    return true;
                default:
                    return false;
            }
        }

        boolean runsExtended(Instruction i) {
            int a = state.register(i.a);
            int b = state.register(i.b);
            switch (i.x) {
                case 0:
                    state.keepOrder(i.d >> 2, Integer.compare(a, b));
                    return true;
                case 4:
                    trap(i.d, a, b);
                    return true;
                case 32:
                    state.keepOrder(i.d >> 2, Integer.compareUnsigned(a, b));
                    return true;
                default:
                    return false;
            }
        }

        private void trap(int d, int x, int y) {
            int order = Integer.compare(x, y);
            int unsigned = Integer.compareUnsigned(x, y);
            boolean traps = (d & 16) != 0 && order < 0
                    || (d & 8) != 0 && order > 0
                    || (d & 4) != 0 && order == 0
                    || (d & 2) != 0 && unsigned < 0
                    || (d & 1) != 0 && unsigned > 0;
            if (traps) {
                state.raise(PROGRAM_VECTOR, TRAP_BIT);
            }
        }
    }

    /** The instructions that add, subtract, multiply and divide. */
    private static final class Arithmetic {
        private static final long UNSIGNED = 4294967295L;
        private static final int LEAST = 1 << 31;

        private final State state;

        Arithmetic(State state) {
            this.state = state;
        }

        boolean runsImmediate(Instruction i) {
            int a = state.register(i.a);
            int result;
            switch (i.op) {
                case 7:
                    result = a * i.s;
                    break;
                case 8:
                    result = sumWithCarry(~a, i.s, 1);
                    break;
                case 12:
                case 13:
                    result = sumWithCarry(a, i.s, 0);
                    break;
                case 14:
                    result = state.registerOrZero(i.a) + i.s;
                    break;
                case 15:
                    result = state.registerOrZero(i.a) + i.s * 65536;
                    break;
                default:
                    return false;
            }
            state.keepResult(i.d, result, i.op == 13);
            return true;
        }

        boolean runsExtended(Instruction i) {
            int a = state.register(i.a);
            int b = state.register(i.b);
            int result;
            switch (i.x) {
                case 8:
                    result = sumWithCarry(~a, b, 1);
                    break;
                case 10:
                    result = sumWithCarry(a, b, 0);
                    break;
                case 11:
                    result = (int) ((a & UNSIGNED) * (b & UNSIGNED) >>> 32);
                    break;
                case 40:
                    result = b - a;
                    break;
                case 75:
                    result = (int) ((long) a * b >> 32);
                    break;
                case 104:
                    result = -a;
                    break;
                case 136:
                    result = sumWithCarry(~a, b, state.carry());
                    break;
                case 138:
                    result = sumWithCarry(a, b, state.carry());
                    break;
                case 235:
                    result = a * b;
                    break;
                case 266:
                    result = a + b;
                    break;
                case 459:
                    result = b == 0 ? 0 : (int) ((a & UNSIGNED) / (b & UNSIGNED));
                    break;
                case 491:
                    result = quotient(a, b);
                    break;
                default:
                    return false;
            }
            state.keepResult(i.d, result, i.has(1));
            return true;
        }

        private static int quotient(int a, int b) {
            return b == 0 || a == LEAST && b == -1 ? 0 : a / b;
        }

        /** A difference x - y is the sum of ~y, x and 1, which has the carry that the document asks. */
        private int sumWithCarry(int x, int y, int carry) {
            long sum = (x & UNSIGNED) + (y & UNSIGNED) + carry;
            state.keepCarry(sum > UNSIGNED);
            return (int) sum;
        }
    }

    /** The instructions that work on the bits of d and put the result into a. */
    private static final class Logic {
        private final State state;

        Logic(State state) {
            this.state = state;
        }

        boolean runsImmediate(Instruction i) {
            int d = state.register(i.d);
            int constant = (i.op & 1) == 0 ? i.u : i.u << 16;
            switch (i.op) {
                case 24:
                case 25:
                    state.keepResult(i.a, d | constant, false);
                    return true;
                case 26:
                case 27:
                    state.keepResult(i.a, d ^ constant, false);
                    return true;
                case 28:
                case 29:
                    state.keepResult(i.a, d & constant, true);
                    return true;
                default:
                    return false;
            }
        }

        boolean runsRotation(Instruction i) {
            int places = i.op == 23 ? state.register(i.b) & 31 : i.b;
            int rotated = Integer.rotateLeft(state.register(i.d), places);
            int mask = mask(i.bits >> 6 & 31, i.bits >> 1 & 31);
            int kept = i.op == 20 ? state.register(i.a) & ~mask : 0;
            state.keepResult(i.a, kept | (rotated & mask), i.has(1));
            return true;
        }

        boolean runsExtended(Instruction i) {
            int d = state.register(i.d);
            int b = state.register(i.b);
            int result;
            switch (i.x) {
                case 26:
                    result = Integer.numberOfLeadingZeros(d);
                    break;
                case 28:
                    result = d & b;
                    break;
                case 60:
                    result = d & ~b;
                    break;
                case 124:
                    result = ~(d | b);
                    break;
                case 316:
                    result = d ^ b;
                    break;
                case 444:
                    result = d | b;
                    break;
                case 476:
                    result = ~(d & b);
                    break;
                case 922:
                    result = (short) d;
                    break;
                case 954:
                    result = (byte) d;
                    break;
                default:
                    return false;
            }
            state.keepResult(i.a, result, i.has(1));
            return true;
        }

        boolean runsShift(Instruction i) {
            int d = state.register(i.d);
            int places = state.register(i.b) & 63;
            int result;
            switch (i.x) {
                case 24:
                    result = places > 31 ? 0 : d << places;
                    break;
                case 536:
                    result = places > 31 ? 0 : d >>> places;
                    break;
                case 792:
                    result = signedShift(d, places);
                    break;
                case 824:
                    result = signedShift(d, i.b);
                    break;
                default:
                    return false;
            }
            state.keepResult(i.a, result, i.has(1));
            return true;
        }

        private int signedShift(int d, int places) {
            int left = places > 31 ? d : d & ((1 << places) - 1);
            state.keepCarry(d < 0 && left != 0);
            return d >> (places > 31 ? 31 : places);
        }

        private static int mask(int m, int n) {
            int fromFirst = -1 >>> m;
            int toLast = -1 << (31 - n);
            return m <= n ? fromFirst & toLast : fromFirst | toLast;
        }
    }

    /** The branches, the call of the system and the return from it, and the work on CR bits. */
    private static final class Branches {
        private final State state;

        Branches(State state) {
            this.state = state;
        }

        boolean runs(Instruction i) {
            switch (i.op) {
                case 16:
                    branch(i, taken(i.d, i.a), origin(i) + (i.s & ~3));
                    return true;
                case 17:
                    callSystem();
                    return true;
                case 18:
                    branch(i, true, origin(i) + ((i.bits << 6 >> 6) & ~3));
                    return true;
                default:
                    return false;
            }
        }

        boolean runsExtended(Instruction i) {
            switch (i.x) {
                case 16:
                    branch(i, taken(i.d, i.a), state.read(LR) & ~3);
                    return true;
                case 50:
                    returnFromException();
                    return true;
                case 150:
                    return true;
                case 193:
                    state.keepConditionBit(i.d, state.conditionBit(i.a) ^ state.conditionBit(i.b));
                    return true;
                case 257:
                    state.keepConditionBit(i.d, state.conditionBit(i.a) & state.conditionBit(i.b));
                    return true;
                case 449:
                    state.keepConditionBit(i.d, state.conditionBit(i.a) | state.conditionBit(i.b));
                    return true;
                case 528:
                    branch(i, taken(i.d | 4, i.a), state.read(CTR) & ~3);
                    return true;
                default:
                    return false;
            }
        }

        private int origin(Instruction i) {
            return i.has(2) ? 0 : state.read(PC);
        }

        private boolean taken(int d, int a) {
            boolean counted = true;
            if ((d & 4) == 0) {
                int count = state.read(CTR) - 1;
                state.keep(CTR, count);
                counted = (count == 0) == ((d & 2) != 0);
            }
            boolean met = (d & 16) != 0 || state.conditionBit(a) == (d >> 3 & 1);
            return counted && met;
        }

        private void branch(Instruction i, boolean taken, int target) {
            if (i.has(1)) {
                state.keep(LR, state.read(PC) + 4);
            }
            if (taken) {
                state.goTo(target);
            }
        }

        private void callSystem() {
            state.raise(CALL_VECTOR, 0);
            state.keep(SRR0, state.read(PC) + 4);
        }

        private void returnFromException() {
            if (!state.refusesPrivileged()) {
                state.keep(MSR, state.read(SRR1) & LOW_HALF);
                state.goTo(state.read(SRR0) & ~3);
            }
        }
    }

    /** The instructions that move words between general and special registers. */
    private static final class Control {
        private final State state;

        Control(State state) {
            this.state = state;
        }

        boolean runs(Instruction i) {
            switch (i.x) {
                case 19:
                    state.keepRegister(i.d, state.read(CR));
                    return true;
                case 144:
                    keepFields(i);
                    return true;
                case 339:
                case 467:
                    return movesSpecial(i);
                case 598:
                    return true;
                case 83:
                case 146:
                case 210:
                case 595:
                    if (!state.refusesPrivileged()) {
                        movePrivileged(i);
                    }
                    return true;
                default:
                    return false;
            }
        }

        private void keepFields(Instruction i) {
            int mask = 0;
            for (int f = 0; f < 8; f++) {
                if (i.has(1 << (19 - f))) {
                    mask |= 15 << (28 - 4 * f);
                }
            }
            state.keep(CR, (state.read(CR) & ~mask) | (state.register(i.d) & mask));
        }

        private void movePrivileged(Instruction i) {
            int segment = SEGMENTS + (i.a & 15);
            switch (i.x) {
                case 83:
                    state.keepRegister(i.d, state.read(MSR));
                    break;
                case 146:
                    state.keep(MSR, state.register(i.d) & LOW_HALF);
                    break;
                case 210:
                    state.keep(segment, state.register(i.d));
                    break;
                default:
                    state.keepRegister(i.d, state.read(segment));
                    break;
            }
        }

        /** Answers false when no special register has the number in the instruction. */
        private boolean movesSpecial(Instruction i) {
            int s = specialOf(i.b * 32 + i.a);
            if (s == NONE) {
                return false;
            }
            boolean free = s == XER || s == LR || s == CTR;
            if (!free && state.refusesPrivileged()) {
                return true;
            }
            if (i.x == 339) {
                state.keepRegister(i.d, state.read(s));
            } else {
                state.keep(s, state.register(i.d));
            }
            return true;
        }

        private static int specialOf(int number) {
            switch (number) {
                case 1:
                    return XER;
                case 8:
                    return LR;
                case 9:
                    return CTR;
                case 18:
                    return DSISR;
                case 19:
                    return DAR;
                case 25:
                    return SDR1;
                case 26:
                    return SRR0;
                case 27:
                    return SRR1;
                default:
                    return number >= 528 && number <= 543 ? INSTRUCTION_BLOCKS + number - 528 : NONE;
            }
        }
    }

    /** The instructions that load and store. */
    private static final class Accesses {
        private final Memory memory;
        private final State state;
        private final Mapper mapper;

        Accesses(Memory memory, State state, Mapper mapper) {
            this.memory = memory;
            this.state = state;
            this.mapper = mapper;
        }

        boolean runs(Instruction i) {
            if (sizeOf(i.op) == 0 || updates(i.op) && !canUpdate(i)) {
                return false;
            }
            int e = state.registerOrZero(i.a) + i.s;
            if (moves(i.op, i.d, e) && updates(i.op)) {
                state.keepRegister(i.a, e);
            }
            return true;
        }

        boolean runsIndexed(Instruction i) {
            int op = plainForm(i.x);
            if (op == NONE) {
                return false;
            }
            moves(op, i.d, state.registerOrZero(i.a) + state.register(i.b));
            return true;
        }

        /** The OP that does the same as X of OP 31, but for how it makes its address. */
        private static int plainForm(int x) {
            switch (x) {
                case 23:
                    return 32;
                case 87:
                    return 34;
                case 151:
                    return 36;
                case 215:
                    return 38;
                default:
                    return NONE;
            }
        }

        /** In bytes; 0 for what is no access. */
        private static int sizeOf(int op) {
            switch (op) {
                case 32:
                case 33:
                case 36:
                case 37:
                    return 4;
                case 40:
                case 42:
                case 44:
                    return 2;
                case 34:
                case 35:
                case 38:
                case 39:
                    return 1;
                default:
                    return 0;
            }
        }

        private static boolean stores(int op) {
            return op >= 36 && op <= 39 || op == 44;
        }

        private static boolean updates(int op) {
            return op == 33 || op == 35 || op == 37 || op == 39;
        }

        private static boolean canUpdate(Instruction i) {
            return i.a != 0 && (stores(i.op) || i.a != i.d);
        }

        /** Answers false when the access ended in an exception. */
        private boolean moves(int op, int d, int e) {
            int size = sizeOf(op);
            if ((e & (size - 1)) != 0) {
                state.raise(ALIGNMENT_VECTOR, 0);
                state.keep(DAR, e);
                return false;
            }
            int way = stores(op) ? STORE : LOAD;
            int at = mapper.locate(e, way);
            if (at < 0) {
                refuse(e, way, at);
                return false;
            }
            mapper.mark(way);
            if (way == STORE) {
                memory.keepPart(at, size, state.register(d));
            } else {
                int value = memory.part(at, size);
                state.keepRegister(d, op == 42 ? (short) value : value);
            }
            return true;
        }

        private void refuse(int e, int way, int refusal) {
            state.raise(DATA_VECTOR, 0);
            state.keep(DAR, e);
            state.keep(DSISR, causeBit(refusal) | (way == STORE ? STORE_BIT : 0));
        }
    }
}
