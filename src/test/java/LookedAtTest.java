/** Promises 25 to 27: earlier, order, count. */
final class LookedAtTest {
    private static final int BAD = MouldShots.BAD, NONE = MouldShots.NONE;
    private static final int MOST = Integer.MAX_VALUE, LEAST = Integer.MIN_VALUE;
    private static final String NO_CORE = "v1,1,1;s0,1;";

    private LookedAtTest() { }

    // ---- promise 25: earlier

    static void promise25_badWithNoCore() {
        for (int c : new int[] {-1, 3, 4, 9, LEAST, MOST}) {
            Refused.call("earlier(" + c + ")", Ways.READY, BAD, m -> m.earlier(c));
        }
        Refused.call("earlier(0), no cores", Ways.laid(NO_CORE), BAD, m -> m.earlier(0));
        Check.same("earlier(4), four cores", Watched.laid(NO_CORE + "c9;c9;c9;c9;").earlier(4), BAD);
    }

    static void promise25_noneWithoutOne() {
        Refused.call("earlier(1)", Ways.READY, NONE, m -> m.earlier(1));
        for (int c = 0; c < 4; c++) {
            Check.same("earlier(" + c + ")", Watched.laid(NO_CORE + "c9;c9;c9;c9;").earlier(c), NONE);
        }
    }

    static void promise25_from0To3() {
        Watched m = Watched.laid(NO_CORE + "c3;c9;c0;c1;");
        int[] due = {3, NONE, 0, 1};
        for (int c = 0; c < 4; c++) {
            Check.same("earlier(" + c + ")", m.earlier(c), due[c]);
        }
        Check.same("earlier(0) told later", Watched.laid(NO_CORE + "c2;c9;c1;").earlier(0), 2);
    }

    // ---- promise 26: order

    static void promise26_badBelow0() {
        for (int k : new int[] {-1, -2, LEAST}) {
            Refused.call("order(" + k + ")", Ways.READY, BAD, m -> m.order(k));
            Refused.call("order(" + k + "), no cores", Ways.laid(NO_CORE), BAD, m -> m.order(k));
        }
    }

    static void promise26_noneBehindTheLast() {
        for (int k : new int[] {3, 4, 31, 32, MOST}) {
            Refused.call("order(" + k + ")", Ways.READY, NONE, m -> m.order(k));
        }
        Refused.call("order(0), no cores", Ways.laid(NO_CORE), NONE, m -> m.order(0));
        Refused.call("order(4), four cores", Ways.laid(NO_CORE + "c9;c9;c9;c9;"), NONE, m -> m.order(4));
    }

    private static void order(String cores, int... due) {
        Watched m = Watched.laid(NO_CORE + cores);
        for (int k = 0; k < due.length; k++) {
            Check.same("order(" + k + ") of " + cores, m.order(k), due[k]);
        }
        Check.same("order behind " + cores, m.order(due.length), NONE);
        m.mould(1);
        for (int k = 0; k < due.length; k++) {
            Check.same("goes in", m.core(due[k], 1), k + 1);
        }
    }

    static void promise26_theLowestOfThoseThatCan() {
        order("");
        order("c9;", 0);
        order("c9;c9;c9;c9;", 0, 1, 2, 3);
        order("c2;c9;c9;c9;", 1, 2, 0, 3);
        order("c9;c0;c0;c0;", 0, 1, 2, 3);
        order("c3;c3;c3;c9;", 3, 0, 1, 2);
        order("c1;c9;c9;c0;", 1, 0, 2, 3);
    }

    static void promise26_behindTheirEarlierOnes() {
        order("c1;c2;c3;c9;", 3, 2, 1, 0);
        order("c3;c9;c0;c1;", 1, 3, 0, 2);
        order("c9;c3;c1;c0;", 0, 3, 1, 2);
        order("c1;c9;c1;", 1, 0, 2);
    }

    static void promise26_whicheverAreIn() {
        for (String name : new String[] {"new", "shut", "one core in", "ready", "hot", "cool, one core out", "cool, all cores out"}) {
            Watched m = Ways.gone(Ways.all().get(name));
            int[] due = {1, 0, 2, NONE};
            for (int k = 0; k < 4; k++) {
                Check.same(name + ", order(" + k + ")", m.order(k), due[k]);
            }
        }
    }

    // ---- promise 27: count

    static void promise27_badWithNoWhat() {
        for (int what : new int[] {-1, 15, 16, -2, LEAST, MOST}) {
            Refused.call("count(" + what + ")", Ways.TAUGHT, BAD, m -> m.count(what));
        }
    }

    static void promise27_cavitiesCoresStages() {
        Check.counts(Watched.laid(NO_CORE), 1, 0, 1);
        Check.counts(Watched.laid(NO_CORE + "c9;s1,1;v1,1,1;"), 2, 1, 2);
        Check.counts(Watched.laid("v1,1,1;".repeat(6) + "c9;c9;c9;c9;s0,1;s1,1;s2,1;s3,1;"), 6, 4, 4);
    }

    static void promise27_mouldAndCores() {
        Watched m = Watched.laid(NO_CORE + "c9;c9;c9;c9;");
        Check.counts(m, 1, 4, 1, 0, 0, 0);
        m.mould(1);
        Check.counts(m, 1, 4, 1, 1, 0, 0);
        for (int c = 0; c < 4; c++) {
            Check.same("ready", m.count(11), 0);
            m.core(c, 1);
            Check.counts(m, 1, 4, 1, 1, c + 1, 0);
        }
        Check.same("ready", m.count(11), 1);
    }

    static void promise27_readyWithoutCores() {
        Watched m = Watched.laid(NO_CORE);
        Check.same("open", m.count(11), 0);
        m.mould(1);
        Check.same("shut", m.count(11), 1);
        m.shoot();
        Check.same("a shot in it", m.count(11), 1);
    }

    static void promise27_shotsKeptMadeAndBad() {
        Watched m = Watched.laid("v3,1,1;s0,1;o99,99,3;h0,0,0;");
        Check.counts(m, 1, 0, 1, 0, 0, 0, 0, 0, 0, 2, 0);
        for (int made = 1; made <= 15; made++) {
            m.cycleWith(2, made % 2 == 0 ? 1 : 3);
            Check.same("kept", m.count(6), Math.min(12, made));
            Check.same("made", m.count(7), made);
            Check.same("bad", m.count(10), Math.min(6, made / 2));
        }
        for (int i = 0; i < 12; i++) {
            m.cycleWith(2, 1);
        }
        Check.same("all bad", m.count(10), 12);
        for (int i = 0; i < 12; i++) {
            Check.same("kept", m.count(6), 12);
            m.cycleWith(2, 2);
            Check.same("bad", m.count(10), 11 - i);
        }
    }

    static void promise27_badByTheBand() {
        Watched m = Watched.shotOf("v3,1,1;s0,1;o99,99,3;h50,5,0;");
        m.cycleWith(3, 90);
        Check.same("none", m.count(10), 0);
        m.teach(0);
        Check.same("one by the band", m.count(10), 1);
        m.teach(1);
        Check.same("none by the wider one", m.count(10), 0);
        m.forget();
        m.teach(1);
        Check.same("the other one", m.count(10), 1);
        m.undo();
        m.undo();
        Check.same("none, undone", m.count(10), 0);
    }

    static void promise27_inItAndHot() {
        Watched m = Ways.gone(Ways.READY);
        inItAndHot(m, 0, 0);
        m.shoot();
        inItAndHot(m, 1, 1);
        m.waitCool();
        inItAndHot(m, 1, 0);
        m.coresOut();
        inItAndHot(m, 1, 0);
        m.mould(0);
        inItAndHot(m, 0, 0);
    }

    private static void inItAndHot(Watched m, int in, int hot) {
        Check.same("count(5)", m.count(5), in);
        Check.same("count(14)", m.count(14), hot);
    }

    static void promise27_taughtAndWide() {
        Watched m = Ways.gone(Ways.FALLEN);
        for (int taught = 1; taught <= 15; taught++) {
            m.teach(0);
            Check.same("count(8)", m.count(8), taught);
        }
        m.forget();
        Check.same("count(8)", m.count(8), 0);
        m.wide(20);
        Check.same("count(9)", m.count(9), 20);
        m.wide(0);
        Check.same("count(9)", m.count(9), 0);
    }

    static void promise27_changesThatCanBeUndone() {
        Watched m = new Watched();
        int[] due = {1, 2, 3, 4, 4, 4};
        for (int i = 0; i < due.length; i++) {
            m.wide(i + 5);
            Check.same("count(12)", m.count(12), due[i]);
        }
        for (int left = 3; left >= 0; left--) {
            m.undo();
            Check.same("count(12)", m.count(12), left);
        }
        m.undo();
        Check.same("count(12)", m.count(12), 0);
    }

    static void promise27_lettersFrom0To200() {
        Watched m = new Watched();
        for (int letters = 0; letters <= 200; letters++) {
            Check.same("count(13)", m.count(13), letters);
            m.write('v');
        }
        Check.same("count(13)", m.count(13), 200);
        m.wipe();
        Check.same("count(13)", m.count(13), 0);
    }
}
