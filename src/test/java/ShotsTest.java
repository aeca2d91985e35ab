/** Promises 12 and 19 to 24: how a shot goes, shot, curve, cavity, filled, tried, even. */
final class ShotsTest {
    private static final int BAD = MouldShots.BAD, NONE = MouldShots.NONE;

    private ShotsTest() { }

    static void run() {
        easiestFirst();
        overfullGoesOn();
        switchTellsWhy();
        stagesByPlace();
        frozenInTheHold();
        firstMeltInTheHold();
        holdPressureAtTheEdge();
        screwAtItsEnd();
        fullInTheHold();
        balance();
        shotsStayAsMade();
        nothingIsLeftOfOldShots();
        wrongNumbers();
        triedIsWhatIsNow();
        triedBounds();
        evenTies();
    }

    private static MouldShots shotOf(String text) {
        MouldShots m = Check.laid(text);
        Check.cycle(m);
        return m;
    }

    /** Efforts 2, 4, 6 and 3, 6: of two that are alike the lower cavity goes first. */
    private static void easiestFirst() {
        MouldShots m = shotOf("v3,2,9;v2,3,9;s0,1;o99,99,5;h0,0,7;");
        Check.curve(m, 0, 2, 3, 4, 6, 6);
        Check.shot(m, 0, 5, 5, 2, 94, 1, 12, 6, NONE, 0);
        Check.filled(m, 0, 0, 3, 0, 0, 4, 1);
        Check.filled(m, 0, 1, 2, 0, 0, 5, 2);
        Check.curve(shotOf("v3,3,9;v3,2,9;s0,1;o99,99,6;h0,0,0;"), 0, 2, 3, 4, 6, 6, 9);
        MouldShots fast = shotOf("v3,2,9;v2,3,9;s0,5;o99,99,1;h0,0,0;");
        Check.curve(fast, 0, 6);
        Check.shot(fast, 0, 1, 1, 2, 94, 0, 1, 6);
        Check.filled(fast, 0, 0, 3, 0, 0, 1, 1);
    }

    private static void overfullGoesOn() {
        MouldShots m = shotOf("v3,2,2;s0,1;");
        Check.curve(m, 0, 2, 4, 6, 18, 24, 30, 36, 42, 48, 54, 60, 66, 72, 78, 84, 90, 40, 40, 40, 40, 40);
        Check.shot(m, 0, 16, 21, 1, 83, 0, 29, 90, NONE, 1);
        Check.filled(m, 0, 0, 16, 0, 13, 3, 1);
        // both full: 2 * 1 is below 1 * 3, then 2 * 2 is not
        MouldShots two = shotOf("v1,2,9;v3,1,9;s0,1;o99,99,8;h0,0,0;");
        Check.curve(two, 0, 1, 2, 2, 3, 6, 9, 12, 12);
        Check.filled(two, 0, 0, 3, 0, 2, 2, 2);
        Check.filled(two, 0, 1, 5, 0, 2, 4, 1);
        // alike when full: the lower one
        MouldShots alike = shotOf("v2,1,9;v2,1,9;s0,1;o99,99,6;h0,0,0;");
        Check.curve(alike, 0, 1, 1, 2, 2, 6, 6);
        Check.filled(alike, 0, 0, 3, 0, 1, 3, 1);
        Check.filled(alike, 0, 1, 3, 0, 1, 4, 2);
        MouldShots capped = shotOf("v1,9,9;s0,9;o99,99,9;h0,0,0;");
        Check.curve(capped, 0, 99);
        Check.shot(capped, 0, 1, 1, 1, 90, 0, 1, 99);
    }

    private static void switchTellsWhy() {
        String cavity = "v30,1,9;s0,2;h0,0,0;";
        Check.shot(shotOf(cavity + "o6,99,40;"), 0, 3, 3, 0, 93);
        Check.shot(shotOf(cavity + "o5,99,40;"), 0, 3, 3, 0, 93);
        Check.shot(shotOf(cavity + "o99,6,40;"), 0, 3, 3, 1, 93);
        Check.shot(shotOf(cavity + "o99,5,40;"), 0, 3, 3, 1, 93);
        Check.shot(shotOf(cavity + "o99,7,40;"), 0, 4, 4, 1, 91);
        Check.shot(shotOf(cavity + "o99,99,3;"), 0, 3, 3, 2, 93);
        Check.shot(shotOf(cavity + "o6,6,3;"), 0, 3, 3, 0, 93);
        Check.shot(shotOf(cavity + "o7,6,3;"), 0, 3, 3, 1, 93);
        Check.shot(shotOf(cavity + "o7,7,3;"), 0, 3, 3, 2, 93);
        Check.shot(shotOf("v30,1,9;s0,1;h0,0,0;o99,99,40;"), 0, 34, 34, 1, 65);
        Check.shot(shotOf("v30,1,9;v30,1,9;s0,1;h0,0,0;o99,99,40;"), 0, 40, 40, 2, 59);
    }

    private static void stagesByPlace() {
        // 0 2 4 6 (behind 5: 4 fast) 10 (9: 1) 11
        MouldShots m = shotOf("v30,1,9;s0,2;s5,4;s9,1;o99,99,6;h0,0,0;");
        Check.curve(m, 0, 2, 4, 6, 10, 11, 12);
        // the place of a stage is its own already
        Check.curve(shotOf("v30,1,9;s0,2;s4,5;o99,99,4;h0,0,0;"), 0, 2, 4, 9, 14);
        // a stage that the screw goes past is not used
        Check.curve(shotOf("v30,1,9;s0,9;s4,1;s7,3;o99,99,3;h0,0,0;"), 0, 9, 12, 15);
    }

    private static void frozenInTheHold() {
        for (int freeze = 1; freeze <= 7; freeze++) {
            MouldShots m = shotOf("v30,1," + freeze + ";s0,1;o99,99,3;h99,3,0;");
            Check.filled(m, 0, 0, Math.max(3, Math.min(6, freeze)));
            Check.curve(m, 0, 1, 2, 3, 99, 99, 99);
            Check.shot(m, 0, 3, 6, 2, 99 - Math.max(3, Math.min(6, freeze)));
        }
    }

    private static void firstMeltInTheHold() {
        MouldShots m = shotOf("v30,9,1;v30,1,9;s0,1;o99,99,1;h99,3,0;");
        Check.filled(m, 0, 0, 1, 29, 0, NONE, 2);
        Check.filled(m, 0, 1, 4, 26, 0, NONE, 1);
        m = shotOf("v30,9,2;v30,1,9;s0,1;o99,99,1;h99,3,0;");
        Check.filled(m, 0, 0, 2, 28, 0, NONE, 2);
        m = shotOf("v30,9,1;v30,1,9;s0,1;o99,99,1;h0,3,0;");
        Check.filled(m, 0, 0, 0, 30, 0, NONE, NONE);
        Check.curve(m, 0, 1, 0, 0, 0);
        Check.shot(m, 0, 1, 4, 2, 98, 0, 4, 1);
    }

    private static void holdPressureAtTheEdge() {
        String text = "v30,5,9;s0,1;o99,99,2;";
        Check.filled(shotOf(text + "h10,1,0;"), 0, 0, 2);
        Check.filled(shotOf(text + "h11,1,0;"), 0, 0, 3);
        Check.filled(shotOf(text + "h11,4,0;"), 0, 0, 3);
        Check.filled(shotOf(text + "h16,4,0;"), 0, 0, 4);
        Check.curve(shotOf(text + "h16,4,0;"), 0, 5, 10, 16, 16, 16, 16);
    }

    private static void screwAtItsEnd() {
        String cavities = "v30,9,9;v30,9,9;v30,1,9;v30,1,9;v30,1,9;v30,1,9;";
        MouldShots m = shotOf(cavities + "s0,9;s90,8;o98,99,40;h99,1,0;");
        Check.shot(m, 0, 11, 12, 0, 0);
        int[] has = {3, 2, 24, 24, 23, 23};
        int[] first = {4, 4, 1, 1, 1, 1};
        for (int c = 0; c < 6; c++) {
            Check.same("has", m.filled(0, c, 0), has[c]);
            Check.same("first", m.filled(0, c, 4), first[c]);
        }
        MouldShots end = shotOf(cavities + "s0,8;o99,99,40;h99,9,0;");
        Check.shot(end, 0, 13, 22, 0, 0);
        int melt = 0;
        for (int c = 0; c < 6; c++) {
            melt += end.filled(0, c, 0);
        }
        Check.same("melt of the whole way", melt, 99);
    }

    private static void fullInTheHold() {
        MouldShots m = shotOf("v2,1,9;v5,1,9;s0,1;o99,99,4;h9,6,0;");
        // the first freezes one tick ahead of the second
        Check.filled(m, 0, 0, 7, 0, 5, 3, 1);
        Check.filled(m, 0, 1, 8, 0, 3, 7, 2);
        Check.shot(m, 0, 4, 10, 2, 84, 4, 10, 9);
    }

    private static void balance() {
        Check.same("none was full", shotOf("v9,1,1;v9,1,1;s0,1;o99,99,5;h0,0,0;").shot(0, 4), 0);
        Check.same("one was full", shotOf("v2,1,1;v9,1,1;s0,1;o99,99,5;h0,0,0;").shot(0, 4), 0);
        Check.same("two of three were full", shotOf("v2,1,1;v3,1,1;v9,1,1;s0,1;o99,99,8;h0,0,0;").shot(0, 4), 3);
        Check.same("both in one tick", shotOf("v2,1,1;v2,1,1;s0,4;o99,99,1;h0,0,0;").shot(0, 4), 0);
    }

    private static void shotsStayAsMade() {
        MouldShots m = new MouldShots();
        Check.cycle(m);
        int[] due = {10, 16, 1, 66, 2, 25, 72, NONE, 0};
        Check.shot(m, 0, due);
        m.drag(0, 9);
        m.speed(1, 1);
        m.tell(3, 9);
        m.tell(4, 1);
        m.tell(5, 1);
        Check.shot(m, 0, due);
        Check.filled(m, 0, 0, 13, 0, 1, 8, 1);
        Check.cycle(m);
        Check.shot(m, 0, due);
        Check.yes("the next is another", m.shot(1, 1) != 16);
    }

    /** Rows are used again: a shot of which less comes must not show what an old one had. */
    private static void nothingIsLeftOfOldShots() {
        MouldShots m = Check.laid("v3,1,2;v3,9,1;s0,9;o99,99,3;h0,9,3;");
        for (int i = 0; i < 17; i++) {
            Check.cycle(m);
        }
        m.tell(2, 1);
        m.tell(4, 0);
        m.speed(0, 1);
        for (int i = 0; i < 6; i++) {
            Check.same("tried", m.tried(0, 6), 1);
            Check.cycle(m);
            int s = m.count(6) - 1;
            Check.filled(m, s, 0, 1, 2, 0, NONE, 1);
            Check.filled(m, s, 1, 0, 3, 0, NONE, NONE);
            Check.shot(m, s, 1, 1, 2, 98, 0, 4, 1);
        }
        m.tell(3, 99);
        m.tell(4, 2);
        Check.cycle(m);
        Check.filled(m, 11, 1, 1, 2, 0, NONE, 2);
    }

    private static void wrongNumbers() {
        MouldShots m = new MouldShots();
        Check.same("no shot", m.shot(0, 0), BAD);
        Check.same("no shot", m.curve(0, 1), BAD);
        Check.same("no shot", m.filled(0, 0, 0), BAD);
        Check.cycle(m);
        int[] wrong = {-1, Integer.MIN_VALUE, Integer.MAX_VALUE, 61};
        for (int w : wrong) {
            Check.same("shot(w, 0)", m.shot(w, 0), BAD);
            Check.same("shot(0, w)", m.shot(0, w), BAD);
            Check.same("curve(w, 1)", m.curve(w, 1), BAD);
            Check.same("curve(0, w)", m.curve(0, w), BAD);
            Check.same("cavity(w, 0)", m.cavity(w, 0), BAD);
            Check.same("cavity(0, w)", m.cavity(0, w), BAD);
            Check.same("filled(w, 0, 0)", m.filled(w, 0, 0), BAD);
            Check.same("filled(0, w, 0)", m.filled(0, w, 0), BAD);
            Check.same("filled(0, 0, w)", m.filled(0, 0, w), BAD);
            Check.same("tried(w, 0)", m.tried(w == -1 ? 10 : w, 0), BAD);
            Check.same("tried(0, w)", m.tried(0, w), BAD);
            Check.same("even(w)", m.even(w), BAD);
        }
        Check.same("shot(1, 0)", m.shot(1, 0), BAD);
        Check.same("shot(0, 9)", m.shot(0, 9), BAD);
        Check.same("curve(0, 0)", m.curve(0, 0), BAD);
        Check.same("curve(0, 16)", m.curve(0, 16), 50);
        Check.same("curve(0, 17)", m.curve(0, 17), NONE);
        Check.same("curve(0, 60)", m.curve(0, 60), NONE);
        Check.same("curve(1, 60)", m.curve(1, 60), BAD);
        Check.same("cavity(3, 0)", m.cavity(3, 0), BAD);
        Check.same("cavity(0, 3)", m.cavity(0, 3), BAD);
        Check.same("filled(0, 3, 0)", m.filled(0, 3, 0), BAD);
        Check.same("filled(0, 0, 5)", m.filled(0, 0, 5), BAD);
        Check.same("tried(9, 0)", m.tried(9, 0), BAD);
        Check.same("tried(-9, 0)", m.tried(-9, 0), BAD);
        Check.same("tried(0, 7)", m.tried(0, 7), BAD);
        Check.same("even(2)", m.even(2), BAD);
        MouldShots six = Check.laid("v1,1,1;v1,1,1;v1,1,1;v1,1,1;v1,1,1;v30,8,7;s0,1;");
        Check.same("cavity(5, 0)", six.cavity(5, 0), 30);
        Check.same("cavity(5, 1)", six.cavity(5, 1), 8);
        Check.same("cavity(5, 2)", six.cavity(5, 2), 7);
        Check.same("cavity(6, 0)", six.cavity(6, 0), BAD);
    }

    private static void triedIsWhatIsNow() {
        MouldShots m = new MouldShots();
        for (int by = -8; by <= 8; by++) {
            int[] due = new int[7];
            for (int what = 0; what < 7; what++) {
                due[what] = m.tried(by, what);
            }
            MouldShots made = new MouldShots();
            int[] speeds = {2, 5, 3};
            for (int k = 0; k < 3; k++) {
                made.speed(k, Math.max(1, Math.min(9, speeds[k] + by)));
            }
            Check.cycle(made);
            Check.shot(made, 0, due);
        }
        Check.same("tried makes none", m.count(6), 0);
        Check.same("tried changes none", m.count(12), 0);
        Check.ready(m);
        m.shoot();
        m.drag(0, 9);
        m.tell(5, 77);
        Check.same("tried, one is in it, cools as told now", m.tried(0, 5), m.tried(0, 1) + 77);
        int[] now = new int[7];
        for (int what = 0; what < 7; what++) {
            now[what] = m.tried(0, what);
        }
        Check.empty(m);
        Check.cycle(m);
        Check.shot(m, 1, now);
    }

    private static void triedBounds() {
        MouldShots m = Check.laid("v30,1,9;v30,1,9;s0,5;o99,99,1;h0,0,0;");
        int[] places = {1, 1, 1, 1, 1, 2, 3, 4, 5, 6, 7, 8, 9, 9, 9, 9, 9};
        for (int by = -8; by <= 8; by++) {
            Check.same("place with " + by, 99 - m.tried(by, 3), places[by + 8]);
        }
    }

    private static void evenTies() {
        MouldShots zero = Check.laid("v2,1,1;s0,5;");
        Check.same("all alike: none", zero.even(0), 8);
        Check.same("all alike: none", zero.even(1), 0);
        // full at places 1 and 3: in one tick with a speed of 3 or more
        MouldShots three = Check.laid("v1,1,1;v2,1,1;s0,1;o5,99,40;h0,0,0;");
        Check.same("balance now", three.tried(0, 4), 2);
        Check.same("balance with 1", three.tried(1, 4), 1);
        Check.same("balance with 2", three.tried(2, 4), 0);
        Check.same("the nearest", three.even(0), 10);
        Check.same("balance then", three.even(1), 0);
        // full at places 5 and 6: apart with a speed of 5, in one tick with 4 and with 6
        MouldShots both = Check.laid("v3,1,1;v3,1,1;s0,5;o40,99,40;h0,0,0;");
        Check.same("balance now", both.tried(0, 4), 1);
        Check.same("balance with -1", both.tried(-1, 4), 0);
        Check.same("balance with 1", both.tried(1, 4), 0);
        Check.same("of two the lower", both.even(0), 7);
        Check.same("balance then", both.even(1), 0);
        both.speed(0, 6);
        Check.same("none, it is least now", both.even(0), 8);
        Check.same("even changes nothing", both.count(12), 1);
        Check.same("even makes none", both.count(7), 0);
        // full at places 1 and 9: in one tick with a speed of 9 alone
        MouldShots far = Check.laid("v1,1,1;v8,1,1;s0,1;o40,99,40;h0,0,0;");
        Check.same("balance now", far.tried(0, 4), 8);
        Check.same("the farthest", far.even(0), 16);
        Check.same("balance then", far.even(1), 0);
    }
}
