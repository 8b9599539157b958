/** Promise 8: of OP 31, exactly the listed X are done; every other ends in exception 1792. */
public final class ListedTest {
    private static final int[] LISTED = {
        0, 4, 8, 10, 11, 19, 23, 24, 26, 28, 32, 40, 60, 75, 83, 87, 104, 124, 136, 138, 144, 146, 151, 210,
        215, 235, 266, 316, 339, 444, 459, 467, 476, 491, 536, 595, 598, 792, 824, 922, 954
    };

    private ListedTest() {
    }

    public static void main(String[] args) {
        Check check = new Check();
        boolean[] listed = new boolean[1024];
        for (int x : LISTED) {
            listed[x] = true;
        }
        for (int x = 0; x < 1024; x++) {
            // D 0 never traps; A 1 with B 0 is the number of XER; and address 0 can be loaded and stored.
            Bench bench = new Bench(check).mem(256, Code.ext(x, 0, 1, 0)).spec(Bench.PC, 256);
            check.due("X " + x, bench.p.step(1), listed[x] ? 0 : 1);
            check.due("X " + x + " vector", bench.p.vector(), listed[x] ? 0 : 1792);
            bench.isSpec("X " + x, Bench.PC, listed[x] ? 260 : 1792);
            if (!listed[x]) {
                bench.isException("X " + x, 1792, 256, Bench.NOT_LISTED);
                bench.spec(Bench.MSR, Bench.PROBLEM).fail(256, Code.dot(x, 3, 4, 5));
                bench.isException("X " + x, 1792, 256, Bench.NOT_LISTED | Bench.PROBLEM);
            }
        }
        check.end();
    }
}
