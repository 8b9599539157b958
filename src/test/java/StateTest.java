/** Promises 1 to 7: a new object, and what the calls that hold words and registers answer. */
public final class StateTest {
    private static final int[] OUTSIDE = {-1, -4, Integer.MIN_VALUE, Integer.MAX_VALUE, 1 << 16, 1 << 30};

    /** So many words are looked at on one object, which is used for at most 512 calls. */
    private static final int MANY = 128;

    private final Check check = new Check();

    public static void main(String[] args) {
        StateTest test = new StateTest();
        test.newObject();
        test.memory();
        test.generals();
        test.specials();
        test.check.end();
    }

    private static boolean isSpecial(int s) {
        return s >= 0 && s <= 10 || s >= 16 && s <= 47;
    }

    private void newObject() {
        for (int from = 0; from < 16384; from += MANY) {
            MappedProcessor p = new MappedProcessor();
            for (int w = from; w < from + MANY; w++) {
                check.due("new word " + w, p.word(w), 0);
            }
        }
        MappedProcessor p = new MappedProcessor();
        for (int r = 0; r < 32; r++) {
            check.due("new general " + r, p.general(r), 0);
        }
        for (int s = 0; s < 48; s++) {
            check.due("new special " + s, p.special(s), 0);
        }
        check.due("new vector", p.vector(), 0);
        check.due("new steps", p.steps(), 0);
        p.write(7, 7);
        p.put(7, 7);
        p.set(7, 7);
        MappedProcessor q = new MappedProcessor();
        check.due("word of another object", q.word(7), 0);
        check.due("general of another object", q.general(7), 0);
        check.due("special of another object", q.special(7), 0);
    }

    private void memory() {
        for (int from = 0; from < 16384; from += MANY) {
            words(from);
        }
        MappedProcessor p = new MappedProcessor();
        p.write(3, 5);
        p.write(3, -1);
        check.due("word written twice", p.word(3), -1);
        check.due("steps after write", p.steps(), 0);
    }

    private void words(int from) {
        MappedProcessor p = new MappedProcessor();
        for (int w = from; w < from + MANY; w++) {
            check.due("write " + w, p.write(w, w * 77777 - 5), true);
        }
        for (int w : OUTSIDE) {
            check.due("write " + w, p.write(w, 1), false);
            check.due("word " + w, p.word(w), 0);
        }
        check.due("write 16384", p.write(16384, 1), false);
        check.due("word 16384", p.word(16384), 0);
        for (int w = from; w < from + MANY; w++) {
            check.due("word " + w, p.word(w), w * 77777 - 5);
        }
    }

    private void generals() {
        MappedProcessor p = new MappedProcessor();
        for (int r = 0; r < 32; r++) {
            check.due("put " + r, p.put(r, -3 * r - 1), true);
        }
        for (int r : OUTSIDE) {
            check.due("put " + r, p.put(r, 1), false);
            check.due("general " + r, p.general(r), 0);
        }
        check.due("put 32", p.put(32, 1), false);
        check.due("general 32", p.general(32), 0);
        for (int r = 0; r < 32; r++) {
            check.due("general " + r, p.general(r), -3 * r - 1);
        }
    }

    private void specials() {
        MappedProcessor p = new MappedProcessor();
        for (int s = -3; s < 130; s++) {
            check.due("set " + s, p.set(s, -1 - 4 * s), isSpecial(s));
        }
        for (int s : OUTSIDE) {
            check.due("set " + s, p.set(s, 1), false);
            check.due("special " + s, p.special(s), 0);
        }
        check.due("PC has its lowest two bits 0", p.special(0), -4);
        for (int s = -3; s < 130; s++) {
            if (s != 0) {
                check.due("special " + s, p.special(s), isSpecial(s) ? -1 - 4 * s : 0);
            }
        }
        for (int low = 0; low < 4; low++) {
            p.set(0, 4096 + low);
            check.due("PC set with " + low, p.special(0), 4096);
        }
        for (int s = 1; s < 48; s++) {
            if (isSpecial(s)) {
                p.set(s, -1);
                check.due("all bits of special " + s, p.special(s), -1);
            }
        }
        check.due("word after set", p.word(0), 0);
        check.due("general after set", p.general(0), 0);
    }
}
