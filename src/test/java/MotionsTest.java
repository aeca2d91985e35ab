/** Promises 6 to 14: mould, core, against, drag, speed, tell, shoot, waitCool, undo. */
final class MotionsTest {
    private static final int BAD = MouldShots.BAD, NO = MouldShots.NO, NONE = MouldShots.NONE;
    private static final int[] WRONG_FLAGS = {-1, 2, Integer.MAX_VALUE, Integer.MIN_VALUE};

    private MotionsTest() { }

    static void run() {
        mould();
        mouldWithoutCores();
        coresGoInInOrder();
        coresGoOutInOrder();
        againstInItsOrder();
        drag();
        speed();
        tell();
        shootAndCool();
        coolingIsOfTheShot();
        undoOfEachChange();
        undoGoesBackFour();
        undoBringsShotsBack();
        refusedCallsChangeNothing();
    }

    private static void mould() {
        MouldShots m = new MouldShots();
        for (int is : WRONG_FLAGS) {
            Check.same("mould(" + is + ")", m.mould(is), BAD);
        }
        Check.same("opens, is open", m.mould(0), NO);
        Check.same("shuts", m.mould(1), 0);
        Check.same("is shut", m.count(3), 1);
        Check.same("shuts, is shut", m.mould(1), NO);
        Check.same("opens, nothing in it", m.mould(0), 0);
        m.mould(1);
        m.core(1, 1);
        Check.same("opens with a core in", m.mould(0), NO);
        m.core(1, 0);
        Check.ready(m);
        m.shoot();
        Check.same("opens on a hot shot", m.mould(0), NO);
        m.waitCool();
        Check.same("opens with cores in", m.mould(0), NO);
        m.core(0, 0);
        m.core(2, 0);
        m.core(1, 0);
        Check.same("in it", m.count(5), 1);
        Check.same("falls out", m.mould(0), 1);
        Check.same("nothing in it", m.count(5), 0);
        Check.same("shuts, nothing falls out", m.mould(1), 0);
        Check.same("opens, nothing falls out", m.mould(0), 0);
    }

    private static void mouldWithoutCores() {
        MouldShots m = Check.laid("v1,1,1;s0,1;");
        Check.same("not ready while open", m.count(11), 0);
        Check.same("shoot while open", m.shoot(), NO);
        Check.same("core(0, 1)", m.core(0, 1), BAD);
        Check.same("against(0, 1)", m.against(0, 1), BAD);
        m.mould(1);
        Check.same("ready without cores", m.count(11), 1);
        Check.yes("shoot", m.shoot() > 0);
        Check.same("opens while hot", m.mould(0), NO);
        m.waitCool();
        Check.same("falls out", m.mould(0), 1);
    }

    private static void coresGoInInOrder() {
        MouldShots m = new MouldShots();
        for (int is : WRONG_FLAGS) {
            Check.same("core(0, " + is + ")", m.core(0, is), BAD);
        }
        int[] wrongCores = {-1, 3, 4, 9, Integer.MAX_VALUE, Integer.MIN_VALUE};
        for (int c : wrongCores) {
            Check.same("core(" + c + ", 1)", m.core(c, 1), BAD);
            Check.same("core(" + c + ", 0)", m.core(c, 0), BAD);
        }
        Check.same("in while open", m.core(1, 1), NO);
        Check.same("out while out", m.core(1, 0), NO);
        m.mould(1);
        Check.same("in ahead of its earlier", m.core(0, 1), NO);
        Check.same("in ahead of its earlier", m.core(2, 1), NO);
        Check.same("in", m.core(1, 1), 1);
        Check.same("in twice", m.core(1, 1), NO);
        Check.same("second in", m.core(2, 1), 2);
        Check.same("cores in", m.count(4), 2);
        Check.same("not ready", m.count(11), 0);
        Check.same("third in", m.core(0, 1), 3);
        Check.same("ready", m.count(11), 1);
        m.core(2, 0);
        m.core(0, 0);
        m.core(1, 0);
        Check.ready(m);
        m.shoot();
        m.waitCool();
        m.core(2, 0);
        Check.same("in while a shot is in it", m.core(2, 1), NO);
        m.core(0, 0);
        m.core(1, 0);
        Check.same("in while a shot is in it", m.core(1, 1), NO);
    }

    private static void coresGoOutInOrder() {
        MouldShots m = new MouldShots();
        Check.ready(m);
        Check.same("out ahead of two", m.core(1, 0), NO);
        Check.same("out", m.core(0, 0), 2);
        Check.same("out ahead of one", m.core(1, 0), NO);
        Check.same("out", m.core(2, 0), 1);
        Check.same("out at last", m.core(1, 0), 0);
        Check.ready(m);
        m.shoot();
        for (int c = 0; c < 3; c++) {
            Check.same("out while hot", m.core(c, 0), NO);
        }
        m.waitCool();
        Check.same("out of the cool", m.core(2, 0), 2);
        MouldShots chain = Check.laid("v1,1,1;s0,1;c1;c2;c3;c9;");
        chain.mould(1);
        int[] bars = {1, 2, 3};
        for (int c = 0; c < 3; c++) {
            Check.same("chain, core " + c + " goes in", chain.against(c, 1), 4 + bars[c]);
            Check.same("chain, core " + c + " goes in", chain.core(c, 1), NO);
        }
        for (int c = 3; c >= 0; c--) {
            Check.same("chain in", chain.core(c, 1), 4 - c);
        }
        for (int c = 1; c < 4; c++) {
            Check.same("chain, core " + c + " goes out", chain.against(c, 0), 4 + c - 1);
            Check.same("chain, core " + c + " goes out", chain.core(c, 0), NO);
        }
        for (int c = 0; c < 4; c++) {
            Check.same("chain out", chain.core(c, 0), 3 - c);
        }
    }

    private static void againstInItsOrder() {
        MouldShots m = new MouldShots();
        for (int is : WRONG_FLAGS) {
            Check.same("against(0, " + is + ")", m.against(0, is), BAD);
        }
        Check.same("against(-1, 1)", m.against(-1, 1), BAD);
        Check.same("against(3, 0)", m.against(3, 0), BAD);
        Check.same("is out", m.against(0, 0), 1);
        Check.same("in while open, its earlier out", m.against(0, 1), 2);
        m.mould(1);
        Check.same("earlier is out", m.against(2, 1), 5);
        Check.same("nothing", m.against(1, 1), 0);
        Check.ready(m);
        Check.same("is in", m.against(2, 1), 1);
        Check.same("nothing against going out", m.against(2, 0), 0);
        Check.same("lowest that is in", m.against(1, 0), 4);
        m.core(0, 0);
        Check.same("the other that is in", m.against(1, 0), 6);
        m.core(0, 1);
        m.shoot();
        Check.same("hot", m.against(1, 0), 3);
        Check.same("is in, though hot", m.against(1, 1), 1);
        m.waitCool();
        Check.same("cool, out", m.against(1, 0), 4);
        Check.same("cool, out", m.against(0, 0), 0);
        m.core(0, 0);
        m.core(2, 0);
        m.core(1, 0);
        Check.same("a shot is in it", m.against(1, 1), 3);
        Check.same("a shot is in it, ahead of the earlier one", m.against(0, 1), 3);
        m.mould(0);
        Check.same("open goes first", m.against(0, 1), 2);
    }

    private static void drag() {
        MouldShots m = new MouldShots();
        int[][] wrong = {{-1, 1}, {3, 1}, {0, 0}, {0, 10}, {0, -1}, {Integer.MIN_VALUE, 2}, {0, Integer.MAX_VALUE}, {3, 0}};
        for (int[] w : wrong) {
            Check.same("drag(" + w[0] + ", " + w[1] + ")", m.drag(w[0], w[1]), BAD);
        }
        Check.same("drag as it is", m.drag(1, 3), NO);
        Check.same("drag", m.drag(1, 9), 3);
        Check.same("drag", m.drag(1, 1), 9);
        Check.same("drag now", m.cavity(1, 1), 1);
        Check.same("other drag", m.cavity(0, 1), 2);
    }

    private static void speed() {
        MouldShots m = new MouldShots();
        int[][] wrong = {{-1, 1}, {3, 1}, {0, 0}, {0, 10}, {0, -1}, {Integer.MIN_VALUE, 2}, {0, Integer.MAX_VALUE}, {3, 0}};
        for (int[] w : wrong) {
            Check.same("speed(" + w[0] + ", " + w[1] + ")", m.speed(w[0], w[1]), BAD);
        }
        Check.same("speed as it is", m.speed(1, 5), NO);
        Check.same("speed", m.speed(1, 9), 5);
        Check.same("speed", m.speed(1, 1), 9);
        Check.same("speed", m.speed(1, 5), 1);
        Check.same("other speed", m.speed(2, 4), 3);
    }

    private static void tell() {
        MouldShots m = new MouldShots();
        int[] least = {1, 1, 1, 0, 0, 0};
        int[] most = {99, 99, 40, 99, 20, 99};
        int[] was = {36, 60, 20, 50, 6, 9};
        for (int what = 0; what < 6; what++) {
            String call = "tell " + what;
            Check.same(call, m.tell(what, least[what] - 1), BAD);
            Check.same(call, m.tell(what, most[what] + 1), BAD);
            Check.same(call, m.tell(what, Integer.MIN_VALUE), BAD);
            Check.same(call, m.tell(what, was[what]), NO);
            Check.same(call, m.tell(what, least[what]), was[what]);
            Check.same(call, m.tell(what, most[what]), least[what]);
            Check.same(call, m.tell(what, most[what]), NO);
        }
        Check.same("tell -1", m.tell(-1, 5), BAD);
        Check.same("tell 6", m.tell(6, 5), BAD);
        Check.same("tell most", m.tell(Integer.MAX_VALUE, 5), BAD);
    }

    private static void shootAndCool() {
        MouldShots m = new MouldShots();
        Check.same("waitCool, nothing in it", m.waitCool(), NO);
        Check.same("shoot while open", m.shoot(), NO);
        m.mould(1);
        Check.same("shoot with cores out", m.shoot(), NO);
        m.core(1, 1);
        m.core(0, 1);
        Check.same("shoot with a core out", m.shoot(), NO);
        m.core(2, 1);
        Check.same("shoot", m.shoot(), 25);
        Check.same("in it", m.count(5), 1);
        Check.same("hot", m.count(14), 1);
        Check.same("kept", m.count(6), 1);
        Check.same("made", m.count(7), 1);
        Check.same("shoot, one is in it", m.shoot(), NO);
        Check.same("waitCool", m.waitCool(), 9);
        Check.same("cool", m.count(14), 0);
        Check.same("still in it", m.count(5), 1);
        Check.same("waitCool twice", m.waitCool(), NO);
        Check.same("shoot, a cool one is in it", m.shoot(), NO);
        Check.empty(m);
        Check.same("shoot while open again", m.shoot(), NO);
        for (int made = 2; made <= 15; made++) {
            m.speed(0, made % 9 + 1);
            Check.cycle(m);
            Check.same("kept", m.count(6), Math.min(made, 12));
            Check.same("made", m.count(7), made);
        }
    }

    private static void coolingIsOfTheShot() {
        MouldShots m = Check.laid("v3,1,1;s0,1;h0,0,0;");
        m.mould(1);
        Check.yes("shoot", m.shoot() > 0);
        Check.same("hot though cooling takes no tick", m.count(14), 1);
        Check.same("cooling", m.waitCool(), 0);
        m.mould(0);
        m.tell(5, 17);
        m.mould(1);
        int whole = m.shoot();
        Check.same("long, with its cooling", whole, m.shot(1, 1) + 17);
        m.tell(5, 4);
        Check.same("cooling as it was", m.waitCool(), 17);
        Check.same("long as it was", m.shot(1, 5), whole);
    }

    /** All that can be seen, in a row. */
    private static int[] seen(MouldShots m) {
        int[] row = new int[420];
        int at = 0;
        for (int what = 0; what < 15; what++) {
            row[at++] = what == 12 ? 0 : m.count(what);
        }
        for (int c = 0; c < 3; c++) {
            row[at++] = m.cavity(c, 1);
            row[at++] = m.against(c, 0);
            row[at++] = m.against(c, 1);
        }
        for (int tick = 1; tick <= 25; tick++) {
            row[at++] = m.band(tick, 0);
            row[at++] = m.band(tick, 1);
        }
        for (int s = 0; s < m.count(6); s++) {
            for (int what = 0; what < 9; what++) {
                row[at++] = m.shot(s, what);
            }
            for (int c = 0; c < 3; c++) {
                row[at++] = m.filled(s, c, 0);
                row[at++] = m.filled(s, c, 4);
            }
        }
        for (int what = 0; what < 7; what++) {
            row[at++] = m.tried(0, what);
            row[at++] = m.tried(3, what);
        }
        return row;
    }

    private static int change(MouldShots m, int which) {
        switch (which) {
            case 0: return m.shoot();
            case 1: return m.waitCool();
            case 2: return m.mould(m.count(3) == 0 ? 1 : 0);
            case 3: return m.core(1, 1);
            case 4: return m.core(2, 0);
            case 5: return m.teach(0);
            case 6: return m.forget();
            case 7: return m.wide(20);
            case 8: return m.drag(1, 8);
            case 9: return m.speed(1, 8);
            default: return m.tell(which - 10, which == 14 ? 3 : which == 15 ? 30 : which == 12 ? 4 : 15);
        }
    }

    /** Each change where it can be made: 0 open, 1 shut, 2 ready, 3 hot, 4 cool, all behind a taught shot. */
    private static void undoOfEachChange() {
        int done = 0;
        for (int stand = 0; stand < 5; stand++) {
            for (int which = 0; which < 16; which++) {
                MouldShots m = new MouldShots();
                Check.cycle(m);
                m.teach(0);
                m.speed(0, 3);
                if (stand == 1) {
                    m.mould(1);
                }
                if (stand >= 2) {
                    Check.ready(m);
                }
                if (stand >= 3) {
                    m.shoot();
                }
                if (stand == 4) {
                    m.waitCool();
                }
                int undoable = m.count(12);
                int[] ahead = seen(m);
                int answer = change(m, which);
                if (answer < 0) {
                    Check.same("undoable behind a refused change", m.count(12), undoable);
                    continue;
                }
                done++;
                Check.same("undoable", m.count(12), 4);
                Check.same("undo", m.undo(), 3);
                same("stand " + stand + ", change " + which, seen(m), ahead);
            }
        }
        Check.yes("all kinds of changes were tried", done > 50);
    }

    private static void same(String what, int[] got, int[] due) {
        for (int i = 0; i < due.length; i++) {
            Check.same(what + ", row " + i, got[i], due[i]);
        }
    }

    private static void undoGoesBackFour() {
        MouldShots m = new MouldShots();
        Check.same("nothing to undo", m.undo(), NO);
        for (int w = 3; w <= 9; w++) {
            m.wide(w);
            Check.same("undoable", m.count(12), Math.min(4, w - 2));
        }
        for (int left = 3; left >= 0; left--) {
            Check.same("undo", m.undo(), left);
            Check.same("wide", m.count(9), 5 + left);
        }
        Check.same("no more", m.undo(), NO);
        Check.same("wide", m.count(9), 5);
        m.wide(11);
        m.wide(12);
        Check.same("undo behind undo", m.undo(), 1);
        Check.same("wide", m.count(9), 11);
        m.wide(13);
        Check.same("undo", m.undo(), 1);
        Check.same("undo", m.undo(), 0);
        Check.same("wide", m.count(9), 5);
        m.write('a');
        m.wipe();
        Check.same("the text is no change", m.count(12), 0);
    }

    private static void undoBringsShotsBack() {
        MouldShots m = Check.laid("v9,1,9;s0,1;o1,99,40;h0,0,0;");
        for (int i = 0; i < 14; i++) {
            m.tell(0, i + 1);
            m.mould(1);
            m.shoot();
            if (i < 13) {
                m.waitCool();
                m.mould(0);
            }
        }
        Check.same("oldest that is kept", m.shot(0, 0), 3);
        Check.same("newest", m.shot(11, 0), 14);
        Check.same("undo", m.undo(), 3);
        Check.same("made", m.count(7), 13);
        Check.same("kept", m.count(6), 12);
        Check.same("the oldest is back", m.shot(0, 0), 2);
        Check.same("newest", m.shot(11, 0), 13);
        Check.same("nothing is in it", m.count(5), 0);
        Check.same("no shot so far", m.shot(12, 0), BAD);
        m.undo();
        m.undo();
        Check.same("undo of the opening", m.undo(), 0);
        Check.same("the one ahead is in it again", m.count(5), 1);
        Check.same("it is cool", m.count(14), 0);
        Check.same("no more", m.undo(), NO);
        m.mould(0);
        m.tell(0, 8);
        m.mould(1);
        m.shoot();
        Check.same("newest", m.shot(11, 0), 8);
        Check.same("oldest", m.shot(0, 0), 3);
        m.undo();
        Check.same("the oldest is back again", m.shot(0, 0), 2);
    }

    private static void refusedCallsChangeNothing() {
        MouldShots m = new MouldShots();
        Check.cycle(m);
        Check.ready(m);
        m.shoot();
        int[] ahead = seen(m);
        int[] answers = {m.mould(0), m.mould(1), m.mould(5), m.core(0, 0), m.core(0, 1), m.core(9, 1), m.drag(0, 2),
            m.drag(0, 0), m.speed(0, 2), m.speed(9, 2), m.tell(0, 36), m.tell(0, 0), m.shoot(), m.teach(2), m.teach(-1),
            m.forget(), m.wide(2), m.wide(21), m.write(5), m.lay(), m.band(0, 0), m.shot(5, 0), m.order(-1)};
        for (int answer : answers) {
            Check.yes("refused: " + answer, answer == BAD || answer == NO || answer == NONE);
        }
        same("refused calls", seen(m), ahead);
        Check.same("undoable", m.count(12), 4);
    }
}
