/** The edges of segments and of the page table: a method for each sentence that names one. */
public final class PageEdgesTest {
    private static final int FETCH = 0;
    private static final int LOAD = 1;
    private static final int STORE = 2;
    private static final int BOTH = Bench.IR | Bench.DR;
    private static final int TABLE = 0x8000;
    private static final int NOT_FOUND = -1;
    private static final int PROTECTION = -2;
    private static final int NO_EXECUTE = -3;
    private static final int LAST_V = 16777215;

    private final Check check = new Check();

    public static void main(String[] args) {
        PageEdgesTest test = new PageEdgesTest();
        test.segmentOfAddress();
        test.segmentNotFound();
        test.segmentNoExecute();
        test.numberOfSegment();
        test.numberOfPage();
        test.hash();
        test.keyOfSegment();
        test.placeOfTable();
        test.groupOfTable();
        test.eightEntries();
        test.firstWord();
        test.firstEntryCounts();
        test.secondGroup();
        test.oneGroupForBoth();
        test.noEntry();
        test.protectionOfPages();
        test.addressThroughEntry();
        test.marksOfSteps();
        test.marksOfSecondGroup();
        test.refusedMarksNothing();
        test.otherTranslationsMarkNothing();
        test.endOfPage();
        test.marksComeFirst();
        test.fetchMarkComesFirst();
        test.check.end();
    }

    private MappedProcessor processor(int sdr1) {
        MappedProcessor p = new MappedProcessor();
        p.set(Bench.MSR, BOTH);
        p.set(Bench.SDR1, sdr1);
        return p;
    }

    private static void entry(MappedProcessor p, int address, int first, int second) {
        p.write(address >>> 2, first);
        p.write((address >>> 2) + 1, second);
    }

    private static int first(int v, int i) {
        return (int) (2147483648L + 128L * v + (i >>> 10));
    }

    private void due(String what, MappedProcessor p, int e, int way, int want) {
        check.due(what + ": translate " + Integer.toHexString(e) + " for " + way, p.translate(e, way), want);
    }

    /** "let s be the segment e >>> 28." */
    private void segmentOfAddress() {
        for (int k = 0; k < 16; k++) {
            MappedProcessor p = processor(TABLE);
            entry(p, TABLE, first(k + 1, 0), 0x7002);
            for (int other = 0; other < 16; other++) {
                p.set(32 + other, other + 1);
            }
            for (int other = 0; other < 16; other++) {
                due("segment " + k, p, other << 28 | 4, LOAD, other == k ? 0x7004 : NOT_FOUND);
            }
        }
    }

    /** "Bit 31 of s is 1: it is NOT FOUND.": before the other refusals, for every way. */
    private void segmentNotFound() {
        for (int bits : new int[] {0, 1 << 28, 1 << 29, 1 << 30, 7 << 28}) {
            MappedProcessor p = processor(TABLE);
            entry(p, TABLE, first(0, 0), 0x7000);
            p.set(32, 1 << 31 | bits);
            for (int way = 0; way < 3; way++) {
                due("bit 31 and " + bits, p, 4, way, NOT_FOUND);
            }
        }
    }

    /** "Bit 28 of s is 1 and the way is FETCH: it is NO EXECUTE.": found or not, protected or not. */
    private void segmentNoExecute() {
        for (int second : new int[] {0x7002, 0x7000}) {
            MappedProcessor p = processor(TABLE);
            entry(p, TABLE, first(0, 0), second);
            p.set(32, 1 << 28 | 1 << 30);
            due("no execute", p, 4, FETCH, NO_EXECUTE);
            due("no execute, no entry", p, 1 << 22, FETCH, NO_EXECUTE);
            due("load all the same", p, 4, LOAD, second == 0x7000 ? PROTECTION : 0x7004);
            due("store all the same", p, 4, STORE, second == 0x7000 ? PROTECTION : 0x7004);
            due("load, no entry", p, 1 << 22, LOAD, NOT_FOUND);
        }
        MappedProcessor p = processor(TABLE);
        entry(p, TABLE, first(0, 0), 0x7002);
        for (int bit = 24; bit < 31; bit++) {
            p.set(32, 1 << bit);
            due("bit " + bit, p, 4, FETCH, bit == 28 ? NO_EXECUTE : 0x7004);
        }
    }

    /** "Let v be s & 16777215": its 24 bits, and none above. */
    private void numberOfSegment() {
        for (int bit = 0; bit < 24; bit++) {
            MappedProcessor p = processor(TABLE);
            entry(p, TABLE, first(1 << bit, 0), 0x7002);
            p.set(32, 1 << bit);
            due("v with bit " + bit, p, 4, LOAD, 0x7004);
            p.set(32, 0);
            due("v without bit " + bit, p, 4, LOAD, NOT_FOUND);
        }
        for (int v : new int[] {0, LAST_V}) {
            MappedProcessor p = processor(TABLE);
            entry(p, TABLE, first(v, 0), 0x7002);
            p.set(32, v);
            due("v " + v, p, 4, LOAD, 0x7004);
            p.set(32, v | 15 << 24 & ~(1 << 28));
            due("v " + v + " with the bits above", p, 4, LOAD, 0x7004);
            p.set(32, v ^ 1);
            due("another v", p, 4, LOAD, NOT_FOUND);
        }
    }

    /** "i = e >>> 12 & 65535": its upper six bits stand in the first word. */
    private void numberOfPage() {
        for (int i : new int[] {0, 1, 1023, 1024, 2047, 32767, 32768, 64511, 64512, 65535}) {
            MappedProcessor p = processor(TABLE);
            entry(p, TABLE, first(0, i), 0x7002);
            due("page " + i + ", first byte", p, i << 12, LOAD, 0x7000);
            due("page " + i + ", last byte", p, i << 12 | 4095, LOAD, 0x7FFF);
            due("page " + i + " and another", p, (i ^ 1024) << 12, LOAD, NOT_FOUND);
        }
    }

    /** "h = (v & 524287) ^ i": each bit of v and of i that tells the group, and both together. */
    private void hash() {
        for (int v = 0; v < 16; v++) {
            for (int i = 0; i < 16; i++) {
                MappedProcessor p = processor(TABLE | 15);
                entry(p, TABLE + 64 * (v ^ i), first(v + 0xFF8000, i), 0x7002);
                p.set(32, v + 0xFF8000);
                due("v " + v + " page " + i, p, i << 12, LOAD, 0x7000);
                due("v " + v + " page beside " + i, p, (i ^ 1) << 12, LOAD, NOT_FOUND);
            }
        }
    }

    /** "the KEY bit 29 of s if PROBLEM is 1, else bit 30." */
    private void keyOfSegment() {
        for (int keys = 0; keys < 4; keys++) {
            MappedProcessor p = processor(TABLE);
            entry(p, TABLE, first(9, 0), 0x7000);
            p.set(32, 9 | keys << 29);
            due("keys " + keys, p, 4, LOAD, (keys & 2) != 0 ? PROTECTION : 0x7004);
            p.set(Bench.MSR, BOTH | Bench.PROBLEM);
            due("keys " + keys + " in PROBLEM", p, 4, LOAD, (keys & 1) != 0 ? PROTECTION : 0x7004);
        }
    }

    /** "the address (SDR1 & 64512)": the bits 15 .. 10 of SDR1, the others not. */
    private void placeOfTable() {
        for (int place = 0; place <= 64512; place += 1024) {
            for (int others : new int[] {0, 0xFFFF0000, 0x3F0, 0x7FFF03F0}) {
                MappedProcessor p = processor(place | others);
                entry(p, place, first(3, 0), 0x7002);
                p.set(32, 3);
                due("table at " + place, p, 4, LOAD, 0x7004);
            }
        }
    }

    /** "64 * (g & SDR1 & 15)": from the first group to the sixteenth, which ends with memory. */
    private void groupOfTable() {
        for (int low = 0; low < 16; low++) {
            for (int g = 0; g < 16; g++) {
                for (int place : new int[] {0, 64512}) {
                    MappedProcessor p = processor(place | low);
                    entry(p, place + 64 * (g & low), first(g, 0), 0x7002);
                    p.set(32, g);
                    due("SDR1 " + (place | low) + " group " + g, p, 4, LOAD, 0x7004);
                }
            }
        }
        MappedProcessor last = processor(64512 | 15);
        entry(last, 65528, first(15, 0), 0x7002);
        last.set(32, 15);
        due("the last entry of memory", last, 4, LOAD, 0x7004);
    }

    /** "eight ENTRIES of two words": the first and the eighth count, the words beside and between do not. */
    private void eightEntries() {
        for (int k = -1; k <= 8; k++) {
            MappedProcessor p = processor(TABLE | 15);
            entry(p, TABLE + 256 + 8 * k, first(4, 0), 0x7002);
            p.set(32, 4);
            due("entry " + k, p, 4, LOAD, k >= 0 && k < 8 ? 0x7004 : NOT_FOUND);
            MappedProcessor q = processor(TABLE | 15);
            entry(q, TABLE + 256 + 8 * k + 4, first(4, 0), 0x7002);
            q.set(32, 4);
            due("second word of entry " + k, q, 4, LOAD, NOT_FOUND);
        }
    }

    /** "whose first word is 2^31 + 128 * v + (i >>> 10)": from the least to the greatest, and no bit else. */
    private void firstWord() {
        check.due("the least first word", first(0, 0), Integer.MIN_VALUE);
        check.due("the greatest first word", first(LAST_V, 65535), -65);
        firstWord(0, 0);
        firstWord(0, 65535);
        firstWord(LAST_V, 0);
        firstWord(LAST_V, 65535);
        firstWord(0x555555, 0xA800);
    }

    private void firstWord(int v, int i) {
        for (int bit = 0; bit < 32; bit++) {
            MappedProcessor p = processor(TABLE);
            p.set(47, v);
            int e = 15 << 28 | i << 12 | 8;
            entry(p, TABLE, first(v, i), 0x7002);
            due("first word", p, e, LOAD, 0x7008);
            entry(p, TABLE, first(v, i) ^ 1 << bit, 0x7002);
            due("first word without bit " + bit, p, e, LOAD, bit == 6 ? 0x7008 : NOT_FOUND);
        }
    }

    /** "The first entry ..., of group h, counts": also when it refuses, and before any of group ~h. */
    private void firstEntryCounts() {
        for (int k = 0; k < 8; k++) {
            MappedProcessor p = processor(TABLE | 15);
            p.set(32, 2 | 1 << 30);
            for (int later = k; later < 8; later++) {
                entry(p, TABLE + 128 + 8 * later, first(2, 0), later << 12 | 2);
            }
            entry(p, TABLE + 64 * 13, first(2, 0) + 64, 0xF002);
            due("the first is " + k, p, 4, LOAD, k << 12 | 4);
            entry(p, TABLE + 128 + 8 * k, first(2, 0), k << 12);
            due("the first refuses", p, 4, LOAD, PROTECTION);
        }
    }

    /** "or, if there is none, the first whose first word is that and 64, of group ~h". */
    private void secondGroup() {
        for (int h = 0; h < 16; h++) {
            for (int k = 0; k < 8; k++) {
                MappedProcessor p = processor(TABLE | 15);
                p.set(32, h);
                int direct = TABLE + 64 * h;
                int second = TABLE + 64 * (15 - h);
                entry(p, second + 8 * k, first(h, 0) + 64, k << 12 | 2);
                entry(p, second + 56, first(h, 0) + 64, k << 12 | 2);
                due("second group of " + h, p, 4, LOAD, k << 12 | 4);
                entry(p, direct + 8 * k, first(h, 0) + 64, 0xF002);
                due("with 64 in group h", p, 4, LOAD, k << 12 | 4);
                entry(p, second, first(h, 0), 0xF002);
                due("without 64 in group ~h", p, 4, LOAD, k << 12 | 4);
            }
        }
    }

    /** With bits of SDR1 that are 0, h and ~h may be one group: then the words without 64 come first. */
    private void oneGroupForBoth() {
        MappedProcessor p = processor(TABLE);
        p.set(32, 6);
        entry(p, TABLE, first(6, 0) + 64, 0x1002);
        due("with 64 alone", p, 4, LOAD, 0x1004);
        entry(p, TABLE + 56, first(6, 0), 0x2002);
        due("without 64, later in the group", p, 4, LOAD, 0x2004);
    }

    /** "if there is none, it is NOT FOUND.": in an empty table, and in one full of others. */
    private void noEntry() {
        MappedProcessor empty = processor(TABLE | 15);
        MappedProcessor full = processor(TABLE);
        for (int k = 0; k < 8; k++) {
            entry(full, TABLE + 8 * k, first(k + 1, 0), 0x7002);
        }
        for (int way = 0; way < 3; way++) {
            due("empty table", empty, 4, way, NOT_FOUND);
            due("full table", full, 4, way, NOT_FOUND);
        }
        full.set(32, 8);
        due("the last of the full table", full, 4, LOAD, 0x7004);
    }

    /** "PROTECTION is refused when the key is 1 and p is 0; when the way is STORE and p is 3; when ... p is 1." */
    private void protectionOfPages() {
        int[] refused = {7, 4, 0, 4, 0, 0, 0, 4};
        for (int k = 0; k < 8; k++) {
            boolean key = k < 4;
            int p = k & 3;
            for (int way = 0; way < 3; way++) {
                MappedProcessor processor = processor(TABLE);
                processor.set(32, key ? 1 << 30 : 1 << 29);
                entry(processor, TABLE, first(0, 0), 0x7FFC | p);
                boolean refuses = (refused[k] >> way & 1) == 1;
                due("key " + key + " p " + p, processor, 4, way, refuses ? PROTECTION : 0x7004);
            }
        }
    }

    /** "Otherwise the bits 31 .. 12 are those of w, the others those of e". */
    private void addressThroughEntry() {
        for (int page = 0; page < 16; page++) {
            for (int low : new int[] {0, 1, 2048, 4095}) {
                MappedProcessor p = processor(TABLE);
                entry(p, TABLE, first(0, 3), 0xABCD0000 | page << 12 | 0xFFE);
                due("w " + page, p, 3 << 12 | low, LOAD, page << 12 | low);
                entry(p, TABLE, first(0, 3), page << 12 | 2);
                due("w " + page, p, 3 << 12 | low, STORE, page << 12 | low);
            }
        }
    }

    /** Page 0x20000 of segment 2 by the entry at TABLE; PC is not translated unless IR is put into MSR. */
    private Twins twins(String what, int msr, int second) {
        return new Twins(check, what).spec(Bench.SDR1, TABLE).spec(34, 5).spec(Bench.MSR, msr)
                .mem(TABLE, first(5, 0)).mem(TABLE + 4, second).reg(3, 0x99AABBCC).reg(4, 0x20000000);
    }

    /** "when a step makes this translation, bit 8 of the second word becomes 1, and for STORE bit 7 too". */
    private void marksOfSteps() {
        for (int marks = 0; marks < 4; marks++) {
            int second = 0x7E02 & ~0x180 | marks << 7;
            twins("load", Bench.DR, second).mem(0x7000, 8).run(Code.imm(32, 3, 4, 0)).dueReg(3, 8)
                    .dueMem(TABLE + 4, second | 0x100).same();
            twins("store", Bench.DR, second).run(Code.imm(36, 3, 4, 0)).dueMem(0x7000, 0x99AABBCC)
                    .dueMem(TABLE + 4, second | 0x180).same();
            twins("fetch", Bench.IR, second).mem(0x7010, Code.imm(14, 3, 0, 8)).spec(Bench.PC, 0x20000010).step()
                    .dueReg(3, 8).dueMem(TABLE + 4, second | 0x100).same();
            twins("fetch and store", BOTH, second).mem(0x7010, Code.imm(36, 3, 4, 0)).spec(Bench.PC, 0x20000010)
                    .step().dueMem(0x7000, 0x99AABBCC).dueMem(TABLE + 4, second | 0x180).same();
        }
    }

    /** The same for an entry of group ~h, and for the last word of memory. */
    private void marksOfSecondGroup() {
        twins("store by group ~h", Bench.DR, 0x7002).mem(TABLE, 0).mem(TABLE + 56, first(5, 0) + 64)
                .mem(TABLE + 60, 0x6002).run(Code.imm(36, 3, 4, 0)).dueMem(0x6000, 0x99AABBCC)
                .dueMem(TABLE + 60, 0x6182).same();
        twins("store by the last entry", Bench.DR, 0).spec(Bench.SDR1, 0xFC0F).spec(34, 15)
                .mem(65528, first(15, 0)).mem(65532, 0x6002).run(Code.imm(36, 3, 4, 0))
                .dueMem(0x6000, 0x99AABBCC).dueMem(65532, 0x6182).same();
    }

    /** "Otherwise": a translation that is refused marks nothing. */
    private void refusedMarksNothing() {
        twins("refused load", Bench.DR, 0x7000).spec(34, 5 | 1 << 30).fail(Code.imm(32, 3, 4, 0), 768, 0)
                .dueSpec(Bench.DAR, 0x20000000).dueSpec(Bench.DSISR, 1 << 27).same();
        twins("refused store", Bench.DR, 0x7003).fail(Code.imm(36, 3, 4, 0), 768, 0)
                .dueSpec(Bench.DAR, 0x20000000).dueSpec(Bench.DSISR, 1 << 27 | 1 << 25).same();
        twins("refused fetch", Bench.IR, 0x7000).spec(34, 5 | 1 << 30).spec(Bench.PC, 0x20000000)
                .failStep(1024, 1 << 27).same();
        twins("not aligned", Bench.DR, 0x7002).fail(Code.imm(36, 3, 4, 2), 1536, 0)
                .dueSpec(Bench.DAR, 0x20000002).same();
    }

    /** "when a step makes this translation": not one by a block, not none at all, and not the call translate. */
    private void otherTranslationsMarkNothing() {
        twins("by a block", Bench.DR, 0x7002).run(Code.imm(36, 3, 4, 0)).dueMem(0x7000, 0x99AABBCC)
                .mem(TABLE + 4, 0x7002).spec(24, 0x20000002).spec(25, 0x6002).run(Code.imm(36, 3, 4, 0))
                .dueMem(0x6000, 0x99AABBCC).same();
        twins("no translation", Bench.DR, 0x7002).run(Code.imm(36, 3, 4, 0)).dueMem(0x7000, 0x99AABBCC)
                .mem(TABLE + 4, 0x7002).spec(Bench.MSR, 0).run(Code.imm(36, 3, 4, 4)).dueMem(4, 0x99AABBCC).same();
        Twins after = twins("after translate", Bench.DR, 0x7002);
        check.due("translate before a step", after.made.translate(0x20000000, STORE), 0x7000);
        after.run(Code.imm(14, 3, 0, 8)).dueReg(3, 8).same();
    }

    /** The last word of a page is mapped, and the step behind it asks for the page that follows. */
    private void endOfPage() {
        twins("last word, then the next page", Bench.IR, 0x7002).spec(Bench.SDR1, TABLE | 15)
                .mem(TABLE, 0).mem(TABLE + 64 * 5, first(5, 0)).mem(TABLE + 64 * 5 + 4, 0x7002)
                .mem(0x7FFC, Code.imm(14, 3, 0, 8)).spec(Bench.PC, 0x20000FFC).step().dueReg(3, 8)
                .dueMem(TABLE + 64 * 5 + 4, 0x7102).failStep(1024, 1 << 30).same();
    }

    /** "before what is at the address is read or written.": the entry maps the page in which it stands. */
    private void marksComeFirst() {
        int second = TABLE | 2;
        twins("load of the entry", Bench.DR, second).run(Code.imm(32, 3, 4, 4)).dueReg(3, second | 0x100)
                .dueMem(TABLE + 4, second | 0x100).same();
        twins("store over the entry", Bench.DR, second).run(Code.imm(36, 3, 4, 4))
                .dueMem(TABLE + 4, 0x99AABBCC).same();
        twins("byte over the marks", Bench.DR, second).reg(3, 0).run(Code.imm(38, 3, 4, 7))
                .dueMem(TABLE + 4, second & ~255 | 0x100).same();
        twins("half word over the marks", Bench.DR, second).reg(3, 0).run(Code.imm(44, 3, 4, 6))
                .dueMem(TABLE + 4, 0).same();
        twins("byte beside the marks", Bench.DR, second).reg(3, 0x55).run(Code.imm(38, 3, 4, 4))
                .dueMem(TABLE + 4, 0x55000000 | second | 0x180).same();
    }

    /** The same for a fetch: what is done is the second word of the entry, with bit 8 already 1. */
    private void fetchMarkComesFirst() {
        int second = Code.imm(24, 3, 6, TABLE | 2);
        twins("fetch of the entry", Bench.IR, second).spec(Bench.PC, 0x20000004).reg(3, 0).step()
                .dueReg(6, TABLE | 0x102).dueMem(TABLE + 4, second | 0x100).same();
        int unmarked = Code.cond(449 - 128, 3, 4, TABLE + 2 >> 11);
        twins("fetch of an entry that bit 8 makes listed", Bench.IR, unmarked).spec(Bench.PC, 0x20000004)
                .spec(Bench.CR, 1 << 27).step().dueSpec(Bench.CR, 1 << 28 | 1 << 27)
                .dueMem(TABLE + 4, unmarked | 0x100).same();
    }
}
