/** Promises 25 to 27: earlier, order, count. */
final class LookedAtTest {
    private static final int BAD = MouldShots.BAD, NONE = MouldShots.NONE;

    private LookedAtTest() { }

    static void run() {
        earlier();
        order();
        count();
    }

    private static void earlier() {
        MouldShots m = Check.laid("v1,1,1;s0,1;c3;c9;c0;c1;");
        int[] due = {3, NONE, 0, 1};
        for (int c = 0; c < 4; c++) {
            Check.same("earlier", m.earlier(c), due[c]);
        }
        int[] wrong = {-1, 4, 9, Integer.MAX_VALUE, Integer.MIN_VALUE};
        for (int c : wrong) {
            Check.same("earlier(" + c + ")", m.earlier(c), BAD);
        }
        Check.same("no cores", Check.laid("v1,1,1;s0,1;").earlier(0), BAD);
    }

    private static void order(String cores, int... due) {
        MouldShots m = Check.laid("v1,1,1;s0,1;" + cores);
        for (int k = 0; k < due.length; k++) {
            Check.same("order " + k + " of " + cores, m.order(k), due[k]);
        }
        Check.same("order behind " + cores, m.order(due.length), NONE);
        Check.same("order most", m.order(Integer.MAX_VALUE), NONE);
        Check.same("order -1", m.order(-1), BAD);
        Check.same("order least", m.order(Integer.MIN_VALUE), BAD);
        m.mould(1);
        for (int k = 0; k < due.length; k++) {
            Check.same("goes in", m.core(due[k], 1), k + 1);
            Check.same("order with cores in", m.order(0), due[0]);
        }
    }

    private static void order() {
        order("");
        order("c9;", 0);
        order("c9;c9;c9;c9;", 0, 1, 2, 3);
        order("c1;c2;c3;c9;", 3, 2, 1, 0);
        order("c3;c9;c0;c1;", 1, 3, 0, 2);
        order("c2;c9;c9;c9;", 1, 2, 0, 3);
        order("c9;c0;c0;c0;", 0, 1, 2, 3);
        order("c3;c3;c3;c9;", 3, 0, 1, 2);
    }

    private static void count() {
        MouldShots m = Check.laid("v1,1,1;v2,1,1;v3,1,1;v4,1,1;c9;c0;s0,1;s5,2;s6,2;");
        int[] wrong = {-1, 15, Integer.MAX_VALUE, Integer.MIN_VALUE};
        for (int what : wrong) {
            Check.same("count(" + what + ")", m.count(what), BAD);
        }
        counts(m, 4, 2, 3, 0, 0, 0, 0, 0, 0, 2, 0, 0, 0, 49, 0);
        m.mould(1);
        counts(m, 4, 2, 3, 1, 0, 0, 0, 0, 0, 2, 0, 0, 1, 49, 0);
        m.core(0, 1);
        counts(m, 4, 2, 3, 1, 1, 0, 0, 0, 0, 2, 0, 0, 2, 49, 0);
        m.core(1, 1);
        counts(m, 4, 2, 3, 1, 2, 0, 0, 0, 0, 2, 0, 1, 3, 49, 0);
        m.shoot();
        Check.same("that shot is bad", m.shot(0, 8), 1);
        counts(m, 4, 2, 3, 1, 2, 1, 1, 1, 0, 2, 1, 1, 4, 49, 1);
        m.teach(0);
        m.wide(11);
        m.write('x');
        counts(m, 4, 2, 3, 1, 2, 1, 1, 1, 1, 11, 1, 1, 4, 50, 1);
        m.waitCool();
        counts(m, 4, 2, 3, 1, 2, 1, 1, 1, 1, 11, 1, 1, 4, 50, 0);
        m.core(1, 0);
        counts(m, 4, 2, 3, 1, 1, 1, 1, 1, 1, 11, 1, 0, 4, 50, 0);
        m.core(0, 0);
        m.mould(0);
        m.forget();
        counts(m, 4, 2, 3, 0, 0, 0, 1, 1, 0, 11, 1, 0, 4, 50, 0);
        m.undo();
        counts(m, 4, 2, 3, 0, 0, 0, 1, 1, 1, 11, 1, 0, 3, 50, 0);
    }

    private static void counts(MouldShots m, int... due) {
        for (int what = 0; what < due.length; what++) {
            Check.same("count(" + what + ")", m.count(what), due[what]);
        }
    }
}
