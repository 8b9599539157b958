/** Promise 9, and the translations of promise 8: blocks, segments and the page table. */
public final class TranslationTest {
    private static final int FETCH = 0;
    private static final int LOAD = 1;
    private static final int STORE = 2;
    private static final int TABLE = 0x8000;

    private final Check check = new Check();

    public static void main(String[] args) {
        TranslationTest test = new TranslationTest();
        test.off();
        test.wrongWays();
        test.blockMatches();
        test.blockMasks();
        test.blockOrder();
        test.blockProtection();
        test.blockBeforePage();
        test.segmentRefusals();
        test.pageAddresses();
        test.groups();
        test.entryOrder();
        test.pageProtection();
        test.check.end();
    }

    private Bench bench(int msr) {
        return new Bench(check).spec(Bench.MSR, msr);
    }

    private void at(String what, Bench bench, int e, int way, int want) {
        check.due(what + " translate(" + Integer.toHexString(e) + ", " + way + ")", bench.p.translate(e, way), want);
    }

    private static int first(int v, int i) {
        return (1 << 31) + 128 * v + (i >>> 10);
    }

    private static int group(int sdr1, int hash) {
        return (sdr1 & 64512) + 64 * (hash & sdr1 & 15);
    }

    private void off() {
        for (int msr : new int[] {0, ~(Bench.IR | Bench.DR)}) {
            for (int way = 0; way < 3; way++) {
                at("off", bench(msr), 0x12345678, way, 0x5678);
                at("off", bench(msr), -1, way, 65535);
                at("off", bench(msr), 0, way, 0);
            }
        }
        at("IR alone", bench(Bench.IR), 0x1234, LOAD, 0x1234);
        at("IR alone", bench(Bench.IR), 0x1234, STORE, 0x1234);
        at("IR alone", bench(Bench.IR), 0x1234, FETCH, -1);
        at("DR alone", bench(Bench.DR), 0x1234, FETCH, 0x1234);
        at("DR alone", bench(Bench.DR), 0x1234, LOAD, -1);
        at("DR alone", bench(Bench.DR), 0x1234, STORE, -1);
    }

    private void wrongWays() {
        for (int way : new int[] {-1, 3, 4, -4, Integer.MIN_VALUE, Integer.MAX_VALUE}) {
            at("wrong way", bench(0), 20, way, -4);
            at("wrong way", bench(Bench.IR | Bench.DR), 20, way, -4);
        }
    }

    /** Every block for its ways alone, and valid by bit 1 or, in PROBLEM, by bit 0. */
    private void blockMatches() {
        for (int k = 0; k < 8; k++) {
            for (int valid = 0; valid < 4; valid++) {
                for (int problem = 0; problem < 2; problem++) {
                    Bench bench = bench(Bench.IR | Bench.DR | problem << 14);
                    bench.spec(16 + 2 * k, 0x30002000 | valid).spec(17 + 2 * k, 0x5555C002);
                    boolean counts = (problem == 1 ? valid & 1 : valid & 2) != 0;
                    String what = "block " + k + " valid " + valid + " PROBLEM " + problem;
                    for (int way = 0; way < 3; way++) {
                        boolean its = k < 4 == (way == FETCH);
                        at(what, bench, 0x30002000, way, counts && its ? 0xC000 : -1);
                        at(what, bench, 0x30003FFF, way, counts && its ? 0xDFFF : -1);
                        at(what, bench, 0x30004000, way, -1);
                        at(what, bench, 0x30001FFF, way, -1);
                    }
                }
            }
        }
        for (int bit = 13; bit < 32; bit++) {
            Bench bench = bench(Bench.DR).spec(24, 0x30002002).spec(25, 0xC002);
            at("bit " + bit, bench, 0x30002010 ^ 1 << bit, LOAD, -1);
            at("bit " + bit, bench, 0x30002010, LOAD, 0xC010);
        }
    }

    private void blockMasks() {
        for (int bit = 0; bit < 11; bit++) {
            Bench bench = bench(Bench.DR).spec(24, 0x30000002 | 1 << bit + 2).spec(25, 0x1002);
            int e = 0x30000010 ^ 1 << bit + 13;
            at("mask bit " + bit, bench, e, LOAD, e & 0xE000 | 0x10);
            at("mask bit " + bit, bench, 0x30000010, LOAD, 0x10);
            at("mask bit " + bit, bench, e ^ 1 << (bit + 1) % 11 + 13, LOAD, -1);
        }
        Bench whole = bench(Bench.DR).spec(24, 0x30001FFE).spec(25, 0xFFFFFFFE);
        at("whole mask", whole, 0x30FF4321, LOAD, 0x4321);
        at("whole mask", whole, 0x31000000, LOAD, -1);
        Bench lower = bench(Bench.DR).spec(24, 0x30000006).spec(25, 0xFFFFFFFE);
        at("lower has a 1 where e counts", lower, 0x30000004, LOAD, 0xC004);
        at("lower has a 1 where e counts", lower, 0x30002004, LOAD, 0xE004);
        Bench upper = bench(Bench.DR).spec(24, 0x30002006).spec(25, 0x8002);
        at("upper has a 1 where it does not count", upper, 0x30000004, LOAD, 0x8004);
    }

    private void blockOrder() {
        for (int k = 0; k < 3; k++) {
            Bench bench = bench(Bench.IR | Bench.DR);
            for (int later = k; later < 4; later++) {
                bench.spec(16 + 2 * later, 2).spec(17 + 2 * later, later * 0x2000 + 0x8002);
                bench.spec(24 + 2 * later, 2).spec(25 + 2 * later, later * 0x2000 + 2);
            }
            at("the least block", bench, 8, FETCH, 0x8008 + k * 0x2000);
            at("the least block", bench, 8, LOAD, 8 + k * 0x2000);
            bench.spec(17 + 2 * k, 0).spec(25 + 2 * k, 0);
            at("the least block refuses", bench, 8, FETCH, -2);
            at("the least block refuses", bench, 8, LOAD, -2);
        }
    }

    private void blockProtection() {
        for (int p = 0; p < 4; p++) {
            Bench bench = bench(Bench.IR | Bench.DR).spec(16, 2).spec(17, 0x4000 + p);
            bench.spec(24, 2).spec(25, 0x4000 + p);
            at("block p " + p, bench, 4, FETCH, p == 0 ? -2 : 0x4004);
            at("block p " + p, bench, 4, LOAD, p == 0 ? -2 : 0x4004);
            at("block p " + p, bench, 4, STORE, p == 2 ? 0x4004 : -2);
        }
    }

    private void blockBeforePage() {
        Bench bench = bench(Bench.IR | Bench.DR).spec(Bench.SDR1, TABLE).spec(32, 1 << 31 | 1 << 28);
        bench.spec(16, 2).spec(17, 2).spec(24, 2).spec(25, 2);
        at("block before segment", bench, 16, FETCH, 16);
        at("block before segment", bench, 16, STORE, 16);
        at("beside the block", bench, 8192, STORE, -1);
    }

    private void segmentRefusals() {
        for (int k = 0; k < 16; k++) {
            Bench bench = bench(Bench.IR | Bench.DR).spec(Bench.SDR1, TABLE);
            int e = k << 28 | 0x14;
            for (int other = 0; other < 16; other++) {
                bench.spec(32 + other, other == k ? 7 : 1 << 31);
            }
            bench.mem(group(TABLE, 7), first(7, k << 16 & 65535)).mem(group(TABLE, 7) + 4, 0x5002);
            at("segment " + k, bench, e, FETCH, 0x5014);
            at("segment " + k, bench, e, LOAD, 0x5014);
            at("other segment", bench, (k ^ 1) << 28 | 0x14, LOAD, -1);
            bench.spec(32 + k, 7 | 1 << 28);
            at("no execute", bench, e, FETCH, -3);
            at("no execute", bench, e, LOAD, 0x5014);
            at("no execute", bench, e, STORE, 0x5014);
            at("no execute comes before the table", bench, e + 0x9000, FETCH, -3);
            bench.spec(32 + k, 7 | 1 << 28 | 1 << 31);
            at("not found comes first", bench, e, FETCH, -1);
            at("not found comes first", bench, e, LOAD, -1);
            bench.spec(32 + k, 7 | 15 << 24 & ~(1 << 28));
            at("bits 27 to 24 do not count", bench, e, FETCH, 0x5014);
        }
        Bench zero = bench(Bench.DR).spec(Bench.SDR1, TABLE).mem(TABLE, first(0, 0)).mem(TABLE + 4, 0x5002);
        at("a segment that is 0", zero, 0x14, LOAD, 0x5014);
    }

    private void pageAddresses() {
        int[] pages = {0, 1, 0x3FF, 0x400, 0x7FF, 0x8000, 0xFFFF, 0xFC00};
        for (int i : pages) {
            Bench bench = bench(Bench.DR).spec(Bench.SDR1, TABLE | 15).spec(35, 0xABCDE7);
            int address = group(TABLE | 15, 0xABCDE7 & 524287 ^ i);
            bench.mem(address, first(0xABCDE7, i)).mem(address + 4, 0x12347802 | 0xE7C);
            int e = 0x30000000 | i << 12 | 0x9A4;
            at("page " + i, bench, e, LOAD, 0x79A4);
            at("page " + i, bench, e | 0xFFF, LOAD, 0x7FFF);
            for (int bit = 0; bit < 32; bit++) {
                bench.mem(address, first(0xABCDE7, i) ^ 1 << bit);
                at("page " + i + " without bit " + bit, bench, e, LOAD, -1);
            }
        }
    }

    /** The first word in any of the 16 groups of any table, direct and by the complement. */
    private void groups() {
        for (int sdr1 : new int[] {0, 15, TABLE, TABLE | 15, TABLE | 5, 0xFC0F, 0xFFFFFFFF, 0x7FFF47F7}) {
            for (int i = 0; i < 16; i++) {
                int hash = 3 ^ i;
                int e = i << 12 | 0x10;
                int due = first(3, i);
                int direct = group(sdr1, hash);
                int second = group(sdr1, ~hash);
                String what = "SDR1 " + Integer.toHexString(sdr1) + " page " + i;
                at(what + " none", table(sdr1, 0, 0), e, LOAD, -1);
                for (int k = 0; k < 8; k++) {
                    at(what + " direct", table(sdr1, direct + 8 * k, due), e, LOAD, 0x6010);
                    at(what + " second", table(sdr1, second + 8 * k, due + 64), e, LOAD, 0x6010);
                    if (direct != second) {
                        at(what + " not in the second", table(sdr1, second + 8 * k, due), e, LOAD, -1);
                        at(what + " not in the first", table(sdr1, direct + 8 * k, due + 64), e, LOAD, -1);
                    }
                }
                at(what + " second word", table(sdr1, direct + 4, due), e, LOAD, -1);
            }
        }
        check.due("a group of the last table", group(-1, -1), 65472);
    }

    private Bench table(int sdr1, int address, int word) {
        Bench bench = bench(Bench.DR).spec(Bench.SDR1, sdr1).spec(32, 3);
        return bench.mem(address, word).mem(address + 4, 0x6002);
    }

    private void entryOrder() {
        int direct = group(TABLE | 15, 3);
        int second = group(TABLE | 15, ~3);
        Bench bench = bench(Bench.DR).spec(Bench.SDR1, TABLE | 15).spec(32, 3);
        bench.mem(second, first(3, 0) + 64).mem(second + 4, 0x9002);
        at("only the second group", bench, 4, LOAD, 0x9004);
        for (int k = 7; k >= 0; k--) {
            bench.mem(direct + 8 * k, first(3, 0)).mem(direct + 8 * k + 4, k << 12 | 2);
            at("the first entry", bench, 4, LOAD, k << 12 | 4);
        }
        bench.spec(32, 3 | 1 << 30).mem(direct + 4, 0);
        at("the first entry refuses", bench, 4, LOAD, -2);
    }

    private void pageProtection() {
        for (int p = 0; p < 4; p++) {
            for (int keys = 0; keys < 4; keys++) {
                for (int problem = 0; problem < 2; problem++) {
                    int key = problem == 1 ? keys & 1 : keys >> 1;
                    Bench bench = bench(Bench.IR | Bench.DR | problem << 14).spec(Bench.SDR1, TABLE);
                    bench.spec(32, 3 | keys << 29).mem(TABLE, first(3, 0)).mem(TABLE + 4, 0x7000 | p);
                    String what = "p " + p + " keys " + keys + " PROBLEM " + problem;
                    boolean reads = key == 0 || p != 0;
                    boolean stores = p != 3 && (key == 0 || p == 2);
                    at(what, bench, 8, FETCH, reads ? 0x7008 : -2);
                    at(what, bench, 8, LOAD, reads ? 0x7008 : -2);
                    at(what, bench, 8, STORE, stores ? 0x7008 : -2);
                    bench.isMem("translate marks nothing", TABLE + 4, 0x7000 | p);
                }
            }
        }
    }
}
