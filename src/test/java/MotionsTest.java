import java.util.List;
import java.util.function.Consumer;

/** Promises 6 to 13 and the motions of part 3 of the terms: mould, core, against, drag, speed, tell, shoot, waitCool. */
final class MotionsTest {
    private static final int BAD = MouldShots.BAD, NO = MouldShots.NO, NONE = MouldShots.NONE;
    private static final int MOST = Integer.MAX_VALUE, LEAST = Integer.MIN_VALUE;
    private static final int[] NO_FLAGS = {-1, 2, MOST, LEAST};
    private static final int[] NO_CORES = {-1, 3, 4, 9, 32, 33, MOST, LEAST};
    private static final String NO_CORE = "v3,1,9;s0,1;";
    private static final String CHAIN = NO_CORE + "c1;c2;c3;c9;";

    private MotionsTest() { }

    // ---- promise 6: mould

    static void promise6_badWithNeither0Nor1() {
        for (int is : NO_FLAGS) {
            Refused.call("mould(" + is + "), open", Ways.NEW, BAD, m -> m.mould(is));
            Refused.call("mould(" + is + "), hot", Ways.HOT, BAD, m -> m.mould(is));
        }
    }

    static void promise6_noWhenItIsSo() {
        Refused.call("mould(0), open", Ways.NEW, NO, m -> m.mould(0));
        Refused.call("mould(0), open again", Ways.FALLEN, NO, m -> m.mould(0));
        Refused.call("mould(1), shut", Ways.SHUT, NO, m -> m.mould(1));
        Refused.call("mould(1), hot", Ways.HOT, NO, m -> m.mould(1));
    }

    static void promise6_shutsAndOpensWithNothingInIt() {
        Watched m = new Watched();
        for (int times = 0; times < 3; times++) {
            Check.same("mould(1)", m.mould(1), 0);
            Check.same("count(3)", m.count(3), 1);
            Check.same("mould(0)", m.mould(0), 0);
            Check.same("count(3)", m.count(3), 0);
        }
    }

    static void promise6_noWhileAnyCoreIsIn() {
        for (int c = 0; c < 4; c++) {
            int core = c;
            Consumer<Watched> oneIn = Ways.laid(NO_CORE + "c9;c9;c9;c9;").andThen(Ways.SHUT).andThen(m -> m.core(core, 1));
            Refused.call("mould(0), core " + c + " in", oneIn, NO, m -> m.mould(0));
        }
        Refused.call("mould(0), cool, one core out", Ways.COOL_ONE_OUT, NO, m -> m.mould(0));
        Refused.call("mould(0), cool, all in", Ways.COOL, NO, m -> m.mould(0));
    }

    static void promise6_noWhileItIsHot() {
        Refused.call("mould(0), hot", Ways.HOT, NO, m -> m.mould(0));
        Consumer<Watched> hot = Ways.laid(NO_CORE).andThen(Ways.HOT);
        Refused.call("mould(0), hot, no cores", hot, NO, m -> m.mould(0));
    }

    static void promise6_theShotFallsOut() {
        Watched m = Ways.gone(Ways.COOL_ALL_OUT);
        Check.same("count(5)", m.count(5), 1);
        Check.same("mould(0)", m.mould(0), 1);
        Check.same("count(5)", m.count(5), 0);
        Check.same("count(3)", m.count(3), 0);
        Check.same("it is kept", m.count(6), 1);
        Check.same("mould(1)", m.mould(1), 0);
        Check.same("mould(0), nothing in it", m.mould(0), 0);
    }

    static void promise6_theShotFallsOutWithoutCores() {
        Watched m = Ways.gone(Ways.laid(NO_CORE).andThen(Ways.COOL));
        Check.same("mould(0)", m.mould(0), 1);
        Check.same("mould(0) again", m.mould(0), NO);
    }

    // ---- promise 7: core

    static void promise7_badWithNoCore() {
        for (int c : NO_CORES) {
            Refused.call("core(" + c + ", 1)", Ways.SHUT, BAD, m -> m.core(c, 1));
            Refused.call("core(" + c + ", 0)", Ways.READY, BAD, m -> m.core(c, 0));
        }
        Consumer<Watched> noCores = Ways.laid(NO_CORE).andThen(Ways.SHUT);
        Refused.call("core(0, 1), no cores", noCores, BAD, m -> m.core(0, 1));
        Consumer<Watched> four = Ways.laid(CHAIN).andThen(Ways.SHUT);
        Refused.call("core(4, 1), four cores", four, BAD, m -> m.core(4, 1));
        Check.same("core(3, 1), four cores", Ways.gone(four).core(3, 1), 1);
    }

    static void promise7_badWithNeither0Nor1() {
        for (int is : NO_FLAGS) {
            Refused.call("core(1, " + is + ")", Ways.SHUT, BAD, m -> m.core(1, is));
        }
    }

    static void promise7_badGoesAheadOfNo() {
        Refused.call("core(1, 2), open", Ways.NEW, BAD, m -> m.core(1, 2));
        Refused.call("core(3, 0), open, all out", Ways.NEW, BAD, m -> m.core(3, 0));
        Refused.call("core(0, -1), hot", Ways.HOT, BAD, m -> m.core(0, -1));
    }

    static void promise7_noWhenItIsSo() {
        for (int c = 0; c < 3; c++) {
            int core = c;
            Refused.call("core(" + c + ", 0), out", Ways.SHUT, NO, m -> m.core(core, 0));
            Refused.call("core(" + c + ", 1), in", Ways.READY, NO, m -> m.core(core, 1));
        }
    }

    static void promise7_inNotWhileOpen() {
        for (int c = 0; c < 3; c++) {
            int core = c;
            Refused.call("core(" + c + ", 1), open", Ways.NEW, NO, m -> m.core(core, 1));
        }
    }

    static void promise7_inNotWhileAShotIsInIt() {
        Refused.call("core(2, 1), a cool one in it", Ways.COOL_ONE_OUT, NO, m -> m.core(2, 1));
        Refused.call("core(1, 1), a cool one in it", Ways.COOL_ALL_OUT, NO, m -> m.core(1, 1));
    }

    static void promise7_inOnlyWhileTheEarlierOneIs() {
        Refused.call("core(0, 1), 1 out", Ways.SHUT, NO, m -> m.core(0, 1));
        Refused.call("core(2, 1), 1 out", Ways.SHUT, NO, m -> m.core(2, 1));
        Watched m = Ways.gone(Ways.ONE_IN);
        Check.same("core(2, 1), 1 in", m.core(2, 1), 2);
        Check.same("core(0, 1), 1 in", m.core(0, 1), 3);
    }

    static void promise7_outNotWhileHot() {
        for (int c = 0; c < 3; c++) {
            int core = c;
            Refused.call("core(" + c + ", 0), hot", Ways.HOT, NO, m -> m.core(core, 0));
        }
    }

    static void promise7_outWhileACoolOneIsInIt() {
        Watched m = Ways.gone(Ways.COOL);
        Check.same("core(0, 0)", m.core(0, 0), 2);
        Check.same("core(2, 0)", m.core(2, 0), 1);
        Check.same("core(1, 0)", m.core(1, 0), 0);
    }

    static void promise7_outOnlyWhileAllAreOutWhoseEarlierOneItIs() {
        Refused.call("core(1, 0), 0 and 2 in", Ways.READY, NO, m -> m.core(1, 0));
        Refused.call("core(1, 0), 0 in", Ways.ONE_IN.andThen(m -> m.core(0, 1)), NO, m -> m.core(1, 0));
        Refused.call("core(1, 0), 2 in", Ways.ONE_IN.andThen(m -> m.core(2, 1)), NO, m -> m.core(1, 0));
        Check.same("core(1, 0), both out", Ways.gone(Ways.ONE_IN).core(1, 0), 0);
    }

    static void promise7_tellsHowManyAreIn() {
        Watched m = Ways.gone(Ways.laid(CHAIN).andThen(Ways.SHUT));
        for (int times = 0; times < 2; times++) {
            for (int c = 3; c >= 0; c--) {
                Check.same("core(" + c + ", 1)", m.core(c, 1), 4 - c);
                Check.same("count(4)", m.count(4), 4 - c);
            }
            for (int c = 0; c < 4; c++) {
                Check.same("core(" + c + ", 0)", m.core(c, 0), 3 - c);
                Check.same("count(4)", m.count(4), 3 - c);
            }
        }
    }

    static void promise7_inAChainOneBehindTheOther() {
        Consumer<Watched> shut = Ways.laid(CHAIN).andThen(Ways.SHUT);
        for (int c = 0; c < 3; c++) {
            int core = c;
            Refused.call("core(" + c + ", 1), all out", shut, NO, m -> m.core(core, 1));
            Refused.call("core(" + (c + 1) + ", 0), all in", shut.andThen(Ways.allFourIn()), NO, m -> m.core(core + 1, 0));
        }
    }

    // ---- promise 8: against

    static void promise8_badWithNoCoreNorFlag() {
        for (int c : NO_CORES) {
            Refused.call("against(" + c + ", 1)", Ways.SHUT, BAD, m -> m.against(c, 1));
            Refused.call("against(" + c + ", 0)", Ways.SHUT, BAD, m -> m.against(c, 0));
        }
        for (int is : NO_FLAGS) {
            Refused.call("against(0, " + is + ")", Ways.SHUT, BAD, m -> m.against(0, is));
        }
        Check.same("against(0, 1), no cores", Watched.laid(NO_CORE).against(0, 1), BAD);
        Check.same("against(4, 1), four cores", Watched.laid(CHAIN).against(4, 1), BAD);
        Check.same("against(3, 1), four cores", Watched.laid(CHAIN).against(3, 1), 2);
    }

    private static void against(String what, Consumer<Watched> way, int is, int... due) {
        Watched m = Ways.gone(way);
        for (int c = 0; c < due.length; c++) {
            Check.same(what + ", against(" + c + ", " + is + ")", m.against(c, is), due[c]);
        }
    }

    static void promise8_goingIn() {
        against("open", Ways.NEW, 1, 2, 2, 2);
        against("shut", Ways.SHUT, 1, 5, 0, 5);
        against("core 1 in", Ways.ONE_IN, 1, 0, 1, 0);
        against("ready", Ways.READY, 1, 1, 1, 1);
        against("hot", Ways.HOT, 1, 1, 1, 1);
        against("cool, 2 out", Ways.COOL_ONE_OUT, 1, 1, 1, 3);
        against("cool, all out", Ways.COOL_ALL_OUT, 1, 3, 3, 3);
        against("fallen out", Ways.FALLEN, 1, 2, 2, 2);
    }

    static void promise8_goingOut() {
        against("open", Ways.NEW, 0, 1, 1, 1);
        against("shut", Ways.SHUT, 0, 1, 1, 1);
        against("core 1 in", Ways.ONE_IN, 0, 1, 0, 1);
        against("ready", Ways.READY, 0, 0, 4, 0);
        against("0 out again", Ways.READY.andThen(m -> m.core(0, 0)), 0, 1, 6, 0);
        against("2 out again", Ways.READY.andThen(m -> m.core(2, 0)), 0, 0, 4, 1);
        against("hot", Ways.HOT, 0, 3, 3, 3);
        against("cool", Ways.COOL, 0, 0, 4, 0);
        against("cool, 2 out", Ways.COOL_ONE_OUT, 0, 0, 4, 1);
        against("cool, all out", Ways.COOL_ALL_OUT, 0, 1, 1, 1);
    }

    /** 2 stands between 0 and 3: it alone is in the way, though 0 is lower. */
    static void promise8_notByWayOfOthers() {
        Consumer<Watched> shut = Ways.laid(NO_CORE + "c2;c9;c3;c9;").andThen(Ways.SHUT);
        against("all out", shut, 1, 6, 0, 7, 0);
        against("all in", shut.andThen(Ways.allFourIn()), 0, 0, 0, 4, 6);
        Consumer<Watched> other = Ways.laid(NO_CORE + "c9;c9;c0;c2;").andThen(Ways.SHUT);
        against("all out, the other way", other, 1, 0, 0, 4, 6);
        against("all in, the other way", other.andThen(Ways.allFourIn()), 0, 6, 0, 7, 0);
    }

    static void promise8_theLowestOfSeveral() {
        Consumer<Watched> all = Ways.laid(NO_CORE + "c3;c3;c3;c9;").andThen(Ways.SHUT).andThen(Ways.allFourIn());
        against("all in", all, 0, 0, 0, 0, 4);
        against("0 out", all.andThen(m -> m.core(0, 0)), 0, 1, 0, 0, 5);
        against("0 and 1 out", all.andThen(m -> m.core(0, 0)).andThen(m -> m.core(1, 0)), 0, 1, 1, 0, 6);
        against("1 out", all.andThen(m -> m.core(1, 0)), 0, 0, 1, 0, 4);
        Consumer<Watched> behind = Ways.laid(NO_CORE + "c9;c0;c0;c0;").andThen(Ways.SHUT).andThen(Ways.allFourIn());
        against("all in", behind, 0, 5, 0, 0, 0);
        against("1 and 2 out", behind.andThen(m -> m.core(1, 0)).andThen(m -> m.core(2, 0)), 0, 7, 1, 1, 0);
    }

    static void promise8_nothingIsWhereItGoes() {
        for (String name : Ways.all().keySet()) {
            for (int c = 0; c < 3; c++) {
                for (int is = 0; is <= 1; is++) {
                    Watched m = Ways.gone(Ways.all().get(name));
                    int against = m.against(c, is);
                    int moved = m.core(c, is);
                    Check.yes(name + ", core(" + c + ", " + is + ")",
                        against == BAD ? moved == BAD : against == 0 ? moved >= 0 : moved == NO);
                }
            }
        }
    }

    // ---- promise 9: drag

    static void promise9_badWithNoCavityNorDrag() {
        int[][] wrong = {{-1, 1}, {3, 1}, {6, 1}, {LEAST, 2}, {MOST, 2}, {0, 0}, {0, 10}, {0, -1}, {2, MOST}, {2, LEAST}};
        for (int[] w : wrong) {
            Refused.call("drag(" + w[0] + ", " + w[1] + ")", Ways.TAUGHT, BAD, m -> m.drag(w[0], w[1]));
        }
        Watched six = Watched.laid("v1,1,1;v1,1,1;v1,1,1;v1,1,1;v1,1,1;v1,1,1;s0,1;");
        Check.same("drag(5, 2), six cavities", six.drag(5, 2), 1);
        Check.same("drag(6, 2), six cavities", six.drag(6, 2), BAD);
        Watched one = Watched.laid(NO_CORE);
        Check.same("drag(1, 2), one cavity", one.drag(1, 2), BAD);
        Check.same("drag(0, 2), one cavity", one.drag(0, 2), 1);
    }

    static void promise9_noWhenItIsSo() {
        Refused.call("drag(0, 2)", Ways.NEW, NO, m -> m.drag(0, 2));
        Refused.call("drag(1, 9), told anew", Ways.TOLD_ANEW, NO, m -> m.drag(1, 9));
    }

    static void promise9_from1To9() {
        Watched m = new Watched();
        int was = 2;
        for (int r : new int[] {1, 9, 8, 7, 6, 5, 4, 3, 2, 1}) {
            Check.same("drag(0, " + r + ")", m.drag(0, r), was);
            Check.same("cavity(0, 1)", m.cavity(0, 1), r);
            was = r;
        }
        Check.same("cavity(0, 0)", m.cavity(0, 0), 12);
        Check.same("cavity(0, 2)", m.cavity(0, 2), 6);
        Check.same("cavity(1, 1)", m.cavity(1, 1), 3);
    }

    static void promise9_whateverStands() {
        Check.same("hot", Ways.gone(Ways.HOT).drag(2, 9), 4);
        Check.same("cool", Ways.gone(Ways.COOL).drag(2, 9), 4);
        Check.same("shut", Ways.gone(Ways.SHUT).drag(2, 9), 4);
    }

    // ---- promise 10: speed

    static void promise10_badWithNoStageNorSpeed() {
        int[][] wrong = {{-1, 1}, {3, 1}, {4, 1}, {LEAST, 2}, {MOST, 2}, {0, 0}, {0, 10}, {0, -1}, {2, MOST}, {2, LEAST}};
        for (int[] w : wrong) {
            Refused.call("speed(" + w[0] + ", " + w[1] + ")", Ways.TAUGHT, BAD, m -> m.speed(w[0], w[1]));
        }
        Watched four = Watched.laid("v1,1,1;s0,1;s1,1;s2,1;s3,1;");
        Check.same("speed(3, 2), four stages", four.speed(3, 2), 1);
        Check.same("speed(4, 2), four stages", four.speed(4, 2), BAD);
    }

    static void promise10_noWhenItIsSo() {
        Refused.call("speed(1, 5)", Ways.NEW, NO, m -> m.speed(1, 5));
        Refused.call("speed(2, 1), told anew", Ways.TOLD_ANEW, NO, m -> m.speed(2, 1));
    }

    static void promise10_from1To9() {
        Watched m = new Watched();
        int was = 5;
        for (int s : new int[] {1, 9, 8, 7, 6, 4, 3, 2, 5}) {
            Check.same("speed(1, " + s + ")", m.speed(1, s), was);
            was = s;
        }
        Check.same("speed(0, 9)", m.speed(0, 9), 2);
        Check.same("speed(2, 9)", m.speed(2, 9), 3);
    }

    static void promise10_isGoneOnWith() {
        Watched m = Watched.laid("v30,1,9;s0,1;o99,99,1;");
        for (int s = 9; s >= 2; s--) {
            m.speed(0, s);
            Check.same("place with speed " + s, 99 - m.tried(0, 3) - 5, s);
        }
    }

    // ---- promise 11: tell

    static void promise11_edgesOfEach() {
        int[] least = {1, 1, 1, 0, 0, 0};
        int[] most = {99, 99, 40, 99, 20, 99};
        int[] was = {36, 60, 20, 50, 6, 9};
        for (int i = 0; i < 6; i++) {
            int what = i;
            for (int v : new int[] {least[i] - 1, most[i] + 1, LEAST, MOST}) {
                Refused.call("tell(" + i + ", " + v + ")", Ways.TAUGHT, BAD, m -> m.tell(what, v));
            }
            Watched m = new Watched();
            Check.same("tell(" + i + "), the least", m.tell(i, least[i]), was[i]);
            Check.same("tell(" + i + "), the most", m.tell(i, most[i]), least[i]);
            Check.same("tell(" + i + "), as it was", m.tell(i, was[i]), most[i]);
        }
    }

    static void promise11_badWithNoneThatIsTold() {
        for (int what : new int[] {-1, 6, 7, LEAST, MOST}) {
            Refused.call("tell(" + what + ", 5)", Ways.TAUGHT, BAD, m -> m.tell(what, 5));
        }
    }

    static void promise11_noWhenItIsSo() {
        int[] was = {36, 60, 20, 50, 6, 9};
        for (int i = 0; i < 6; i++) {
            int what = i;
            Refused.call("tell(" + i + ", " + was[i] + ")", Ways.NEW, NO, m -> m.tell(what, was[what]));
        }
        Refused.call("tell(3, 60), told anew", Ways.TOLD_ANEW, NO, m -> m.tell(3, 60));
    }

    static void promise11_eachIsItsOwn() {
        Watched m = new Watched();
        for (int what = 0; what < 6; what++) {
            m.tell(what, 11 + what);
        }
        Check.settings(m, 11, 12, 13, 14, 15, 16);
    }

    static void promise11_isShotWith() {
        Watched m = Watched.laid("v30,1,9;s0,2;o99,99,40;h0,0,0;");
        m.tell(0, 5);
        Check.same("PLACE 5", m.tried(0, 0), 3);
        m.tell(1, 4);
        Check.same("PRESSURE 4", m.tried(0, 0), 2);
        m.tell(2, 1);
        Check.same("TIME 1", m.tried(0, 0), 1);
        m.tell(4, 3);
        Check.same("3 TICKS of HOLD", m.tried(0, 1), 4);
        Check.same("place with HOLD 0", m.tried(0, 3), 97);
        m.tell(3, 99);
        Check.same("place with HOLD 99", m.tried(0, 3), 94);
        m.tell(5, 7);
        Check.same("COOL 7", m.tried(0, 5), 11);
    }

    // ---- promise 12: shoot

    static void promise12_noWhileItIsNotReady() {
        Refused.call("shoot(), open", Ways.NEW, NO, Watched::shoot);
        Refused.call("shoot(), cores out", Ways.SHUT, NO, Watched::shoot);
        Refused.call("shoot(), two cores out", Ways.ONE_IN, NO, Watched::shoot);
        Refused.call("shoot(), core 0 out", Ways.READY.andThen(m -> m.core(0, 0)), NO, Watched::shoot);
        Refused.call("shoot(), core 2 out", Ways.READY.andThen(m -> m.core(2, 0)), NO, Watched::shoot);
        Refused.call("shoot(), open, no cores", Ways.laid(NO_CORE), NO, Watched::shoot);
        Refused.call("shoot(), fallen out", Ways.FALLEN, NO, Watched::shoot);
    }

    static void promise12_noWhileOneIsInIt() {
        Refused.call("shoot(), hot", Ways.HOT, NO, Watched::shoot);
        Refused.call("shoot(), cool", Ways.COOL, NO, Watched::shoot);
        Refused.call("shoot(), cool, cores out", Ways.COOL_ALL_OUT, NO, Watched::shoot);
        Refused.call("shoot(), cool, no cores", Ways.laid(NO_CORE).andThen(Ways.COOL), NO, Watched::shoot);
    }

    static void promise12_withNoCores() {
        Watched m = Ways.gone(Ways.laid(NO_CORE).andThen(Ways.SHUT));
        Check.same("count(11)", m.count(11), 1);
        Check.yes("shoot()", m.shoot() > 0);
    }

    static void promise12_tellsHowLongItIs() {
        Check.same("as at first", Ways.gone(Ways.READY).shoot(), 25);
        Check.same("the shortest", Ways.gone(Ways.laid(NO_CORE + "o1,1,1;h0,0,0;").andThen(Ways.READY)).shoot(), 1);
        String longest = "v30,1,9;v30,1,9;s0,1;o99,99,40;h0,20,99;";
        Check.same("the longest", Ways.gone(Ways.laid(longest).andThen(Ways.READY)).shoot(), 159);
    }

    static void promise12_isInItAndHot() {
        Watched m = Ways.gone(Ways.HOT);
        Check.counts(m, 3, 3, 3, 1, 3, 1, 1, 1, 0, 2, 0, 1, 4, 0, 1);
    }

    static void promise12_theLast12AreKept() {
        Watched m = Watched.laid("v9,1,1;v9,1,1;s0,1;o99,99,40;h0,0,0;");
        for (int made = 1; made <= 40; made++) {
            m.tell(2, made);
            m.mould(1);
            Check.same("shoot() " + made, m.shoot(), made);
            Check.same("kept", m.count(6), Math.min(made, 12));
            Check.same("made", m.count(7), made);
            Check.same("the oldest", m.shot(0, 0), Math.max(1, made - 11));
            m.waitCool();
            m.mould(0);
        }
        for (int s = 0; s < 12; s++) {
            Check.same("shot(" + s + ", 0)", m.shot(s, 0), 29 + s);
        }
        Check.same("shot(12, 0)", m.shot(12, 0), BAD);
    }

    static void promise12_again() {
        Watched m = Ways.gone(Ways.FALLEN);
        m.makeReady();
        Check.same("shoot() again", m.shoot(), 25);
        Check.same("count(7)", m.count(7), 2);
    }

    // ---- promise 13: waitCool

    static void promise13_noWhileNothingHotIsInIt() {
        Refused.call("waitCool(), open", Ways.NEW, NO, Watched::waitCool);
        Refused.call("waitCool(), ready", Ways.READY, NO, Watched::waitCool);
        Refused.call("waitCool(), cool", Ways.COOL, NO, Watched::waitCool);
        Refused.call("waitCool(), cool, cores out", Ways.COOL_ALL_OUT, NO, Watched::waitCool);
        Refused.call("waitCool(), fallen out", Ways.FALLEN, NO, Watched::waitCool);
        Refused.call("waitCool(), ready again", Ways.FALLEN.andThen(Ways.READY), NO, Watched::waitCool);
    }

    static void promise13_tellsCoolFrom0To99() {
        for (int cool : new int[] {0, 1, 8, 98, 99}) {
            Watched m = Ways.gone(Ways.laid(NO_CORE + "h1,1," + cool + ";").andThen(Ways.HOT));
            Check.same("hot with COOL " + cool, m.count(14), 1);
            Check.same("mould(0), hot with COOL " + cool, m.mould(0), NO);
            Check.same("waitCool()", m.waitCool(), cool);
            Check.same("cool", m.count(14), 0);
            Check.same("in it", m.count(5), 1);
            Check.same("mould(0)", m.mould(0), 1);
        }
    }

    static void promise13_coolAsItWasWhenTheShotWasMade() {
        Watched m = Ways.gone(Ways.HOT);
        m.tell(5, 99);
        Check.same("waitCool(), COOL told anew", m.waitCool(), 9);
        Check.same("tell(5, 0)", m.tell(5, 0), 99);
        Check.same("shot(0, 5)", m.shot(0, 5), 25);
        m.coresOut();
        m.mould(0);
        m.makeReady();
        Check.same("shoot()", m.shoot(), 16);
        m.tell(5, 12);
        Check.same("waitCool() of the next", m.waitCool(), 0);
    }

    static void promise13_ofTheShotThatIsInIt() {
        Watched m = Watched.laid(NO_CORE + "o1,1,1;h0,0,0;");
        for (int made = 1; made <= 30; made++) {
            m.tell(5, made);
            m.mould(1);
            Check.same("shoot()", m.shoot(), 1 + made);
            Check.same("waitCool()", m.waitCool(), made);
            m.mould(0);
        }
    }

    // ---- terms, part 3: READY

    static void terms3_readyIsShutAndAllCoresIn() {
        List<String> ready = List.of("ready", "hot", "cool", "taught and hot");
        for (String name : Ways.all().keySet()) {
            boolean due = ready.contains(name);
            Check.same(name + ", count(11)", Ways.gone(Ways.all().get(name)).count(11), due ? 1 : 0);
        }
    }

    static void terms3_hotTillItsCoolingIsOver() {
        Watched m = Ways.gone(Ways.HOT);
        m.mould(0);
        m.core(0, 0);
        m.undo();
        Check.same("the shot undone", m.count(14), 0);
        m.shoot();
        Check.same("hot again", m.count(14), 1);
        m.waitCool();
        Check.same("cool", m.count(14), 0);
        m.undo();
        Check.same("the cooling undone", m.count(14), 1);
        Check.same("waitCool() again", m.waitCool(), 9);
        Check.same("earlier(1)", m.earlier(1), NONE);
    }
}
