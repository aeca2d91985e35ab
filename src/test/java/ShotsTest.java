/** Promises 19 to 24: shot, curve, cavity, filled, tried, even. */
final class ShotsTest {
    private static final int BAD = MouldShots.BAD, NONE = MouldShots.NONE;
    private static final int MOST = Integer.MAX_VALUE, LEAST = Integer.MIN_VALUE;
    private static final String SIX = "v1,1,1;v1,1,1;v1,1,1;v1,1,1;v1,1,1;v30,8,7;s0,1;";
    /** A shot of all 60 ticks, of two cavities. */
    private static final String LONGEST = "v30,1,9;v30,1,9;s0,1;o99,99,40;h30,20,0;";
    private static final int[] NO_SHOTS = {-1, 1, 2, 11, 12, LEAST, MOST};

    private ShotsTest() { }

    // ---- promise 19: shot

    static void promise19_badWithNoShot() {
        for (int s : NO_SHOTS) {
            Refused.call("shot(" + s + ", 0)", Ways.FALLEN, BAD, m -> m.shot(s, 0));
            Refused.call("shot(" + s + ", 7)", Ways.FALLEN, BAD, m -> m.shot(s, 7));
            Refused.call("shot(" + s + ", 8)", Ways.FALLEN, BAD, m -> m.shot(s, 8));
        }
        Refused.call("shot(0, 0), none made", Ways.READY, BAD, m -> m.shot(0, 0));
        Refused.call("shot(0, 7), none made", Ways.READY, BAD, m -> m.shot(0, 7));
        Refused.call("shot(12, 0), 17 made", Ways.MANY_SHOTS, BAD, m -> m.shot(12, 0));
        Check.yes("shot(11, 0), 17 made", Ways.gone(Ways.MANY_SHOTS).shot(11, 0) > 0);
    }

    static void promise19_badWithNoWhat() {
        for (int what : new int[] {-1, 9, 10, LEAST, MOST}) {
            Refused.call("shot(0, " + what + ")", Ways.TAUGHT, BAD, m -> m.shot(0, what));
        }
    }

    static void promise19_eachOfWhatIsTold() {
        Watched m = Watched.shotOf("v3,2,9;v2,3,9;s0,1;o99,99,5;h0,0,7;");
        Check.curve(m, 0, 2, 3, 4, 6, 6);
        Check.shot(m, 0, 5, 5, 2, 94, 1, 12, 6, NONE, 0);
        Check.shot(Watched.shotOf("v3,2,2;s0,1;"), 0, 16, 21, 1, 83, 0, 29, 90, NONE, 1);
        Check.shot(Ways.gone(Ways.TAUGHT), 0, 10, 16, 1, 66, 2, 25, 72, 0, 0);
    }

    static void promise19_theGreatestPressureOfFillOrHold() {
        String text = "v30,1,1;s0,1;o99,99,7;h%d,2,0;";
        Check.same("hold below the fill", Watched.shotOf(String.format(text, 6)).shot(0, 6), 7);
        Check.same("hold as the fill", Watched.shotOf(String.format(text, 7)).shot(0, 6), 7);
        Check.same("hold above the fill", Watched.shotOf(String.format(text, 8)).shot(0, 6), 8);
        Check.same("hold 99", Watched.shotOf(String.format(text, 99)).shot(0, 6), 99);
        Check.same("no hold", Watched.shotOf("v30,1,1;s0,1;o99,99,7;h99,0,0;").shot(0, 6), 7);
        Check.same("in the middle", Watched.shotOf("v1,1,9;v1,9,9;s0,1;o99,99,3;h0,0,0;").shot(0, 6), 9);
        Check.same("60 ticks", Watched.shotOf(LONGEST).shot(0, 6), 30);
    }

    static void promise19_whileItIsHotInIt() {
        Check.shot(Ways.gone(Ways.HOT), 0, 10, 16, 1, 66, 2, 25, 72, NONE, 0);
    }

    /** Rows are used again: a shot of which less comes must not show what an old one had. */
    static void promise19_nothingIsLeftOfOlderShots() {
        Watched m = Watched.laid("v3,1,2;v3,9,1;s0,9;o99,99,3;h0,9,3;");
        for (int i = 0; i < 17; i++) {
            m.cycle();
        }
        m.tell(2, 1);
        m.tell(4, 0);
        m.speed(0, 1);
        for (int i = 0; i < 5; i++) {
            Check.same("tried", m.tried(0, 6), 1);
            m.cycle();
            Check.filled(m, 11, 0, 1, 2, 0, NONE, 1);
            Check.filled(m, 11, 1, 0, 3, 0, NONE, NONE);
            Check.shot(m, 11, 1, 1, 2, 98, 0, 4, 1);
            Check.same("curve(11, 2)", m.curve(11, 2), NONE);
        }
        m.tell(3, 99);
        m.tell(4, 2);
        m.cycle();
        Check.filled(m, 11, 1, 1, 2, 0, NONE, 2);
    }

    static void promise19_theOldestThatIsKeptIs0() {
        Watched m = Watched.laid("v9,1,1;v9,1,1;s0,1;o99,99,40;h0,0,0;");
        for (int made = 1; made <= 14; made++) {
            m.cycleWith(2, made);
            Check.same("shot(0, 0)", m.shot(0, 0), Math.max(1, made - 11));
            Check.same("the newest", m.shot(Math.min(made, 12) - 1, 0), made);
            Check.same("no more", m.shot(Math.min(made, 12), 0), BAD);
        }
    }

    // ---- promise 20: curve

    static void promise20_badWithNoShotNorTick() {
        for (int s : NO_SHOTS) {
            Refused.call("curve(" + s + ", 1)", Ways.FALLEN, BAD, m -> m.curve(s, 1));
            Refused.call("curve(" + s + ", 60)", Ways.FALLEN, BAD, m -> m.curve(s, 60));
        }
        for (int tick : new int[] {0, 61, -1, 62, LEAST, MOST}) {
            Refused.call("curve(0, " + tick + ")", Ways.FALLEN, BAD, m -> m.curve(0, tick));
        }
        Refused.call("curve(0, 1), none made", Ways.READY, BAD, m -> m.curve(0, 1));
        Refused.call("curve(12, 1), 17 made", Ways.MANY_SHOTS, BAD, m -> m.curve(12, 1));
    }

    static void promise20_noneBehindItsLastTick() {
        Check.same("curve(0, 16)", Ways.gone(Ways.FALLEN).curve(0, 16), 50);
        Refused.call("curve(0, 17)", Ways.FALLEN, NONE, m -> m.curve(0, 17));
        Refused.call("curve(0, 60)", Ways.FALLEN, NONE, m -> m.curve(0, 60));
        Watched shortest = Watched.shotOf("v3,1,1;s0,1;o1,1,1;h9,0,99;");
        Check.same("curve(0, 1) of one tick", shortest.curve(0, 1), 1);
        Check.same("curve(0, 2) of one tick", shortest.curve(0, 2), NONE);
    }

    static void promise20_allSixtyTicks() {
        Watched m = Watched.shotOf(LONGEST);
        for (int tick = 1; tick <= 60; tick++) {
            Check.same("curve(0, " + tick + ")", m.curve(0, tick), tick <= 40 ? (tick + 1) / 2 : 30);
        }
        Check.same("curve(0, 61)", m.curve(0, 61), BAD);
    }

    static void promise20_pressure0IsNotNone() {
        Check.curve(Watched.shotOf("v3,1,1;s0,1;o99,99,3;h0,2,9;"), 0, 1, 2, 3, 0, 0);
    }

    // ---- promise 21: cavity

    static void promise21_badWithNoCavityNorWhat() {
        for (int c : new int[] {-1, 3, 4, 5, 6, LEAST, MOST}) {
            Refused.call("cavity(" + c + ", 0)", Ways.TAUGHT, BAD, m -> m.cavity(c, 0));
        }
        for (int what : new int[] {-1, 3, 4, LEAST, MOST}) {
            Refused.call("cavity(0, " + what + ")", Ways.TAUGHT, BAD, m -> m.cavity(0, what));
        }
        Watched six = Watched.laid(SIX);
        Check.same("cavity(6, 0), six cavities", six.cavity(6, 0), BAD);
    }

    static void promise21_volumeDragFreeze() {
        Watched six = Watched.laid(SIX);
        Check.same("cavity(5, 0)", six.cavity(5, 0), 30);
        Check.same("cavity(5, 1)", six.cavity(5, 1), 8);
        Check.same("cavity(5, 2)", six.cavity(5, 2), 7);
    }

    static void promise21_dragNow() {
        Watched m = Ways.gone(Ways.HOT);
        m.drag(2, 9);
        Check.same("cavity(2, 1)", m.cavity(2, 1), 9);
        m.undo();
        Check.same("cavity(2, 1), undone", m.cavity(2, 1), 4);
    }

    // ---- promise 22: filled

    static void promise22_badWithNoShotNorCavityNorWhat() {
        for (int s : NO_SHOTS) {
            Refused.call("filled(" + s + ", 0, 0)", Ways.FALLEN, BAD, m -> m.filled(s, 0, 0));
            Refused.call("filled(" + s + ", 0, 3)", Ways.FALLEN, BAD, m -> m.filled(s, 0, 3));
        }
        for (int c : new int[] {-1, 3, 5, 6, LEAST, MOST}) {
            Refused.call("filled(0, " + c + ", 0)", Ways.FALLEN, BAD, m -> m.filled(0, c, 0));
            Refused.call("filled(0, " + c + ", 4)", Ways.FALLEN, BAD, m -> m.filled(0, c, 4));
        }
        for (int what : new int[] {-1, 5, 6, LEAST, MOST}) {
            Refused.call("filled(0, 0, " + what + ")", Ways.FALLEN, BAD, m -> m.filled(0, 0, what));
        }
        Refused.call("filled(0, 0, 0), none made", Ways.READY, BAD, m -> m.filled(0, 0, 0));
        Refused.call("filled(12, 0, 0), 17 made", Ways.MANY_SHOTS, BAD, m -> m.filled(12, 0, 0));
    }

    static void promise22_hasShortOver() {
        Watched m = Watched.shotOf("v3,1,1;v9,2,1;s0,1;o99,99,5;h0,0,0;");
        Check.filled(m, 0, 0, 3, 0, 0, 4, 1);
        Check.filled(m, 0, 1, 2, 7, 0, NONE, 3);
        Check.filled(Watched.shotOf("v3,1,1;s0,1;o99,99,5;h0,0,0;"), 0, 0, 5, 0, 2, 3, 1);
    }

    static void promise22_noneWhenItWasNeverFull() {
        Check.filled(Watched.shotOf("v3,1,1;s0,1;o99,99,2;h0,0,0;"), 0, 0, 2, 1, 0, NONE, 1);
        Check.filled(Watched.shotOf("v3,1,1;s0,1;o99,99,3;h0,0,0;"), 0, 0, 3, 0, 0, 3, 1);
        Refused.call("filled(0, 0, 3)", Ways.laid("v3,1,1;s0,1;o1,1,1;h0,0,0;").andThen(Ways.FALLEN), NONE,
            m -> m.filled(0, 0, 3));
    }

    static void promise22_noneWhenNoMeltCame() {
        String text = "v3,9,1;v30,1,1;s0,1;o99,99,8;h0,0,0;";
        Check.filled(Watched.shotOf(text), 0, 0, 0, 3, 0, NONE, NONE);
        Check.filled(Watched.shotOf(text.replace("99,8;", "99,9;")), 0, 0, 1, 2, 0, NONE, 9);
        Refused.call("filled(0, 0, 4)", Ways.laid(text).andThen(Ways.FALLEN), NONE, m -> m.filled(0, 0, 4));
    }

    static void promise22_theLastOfSix() {
        Watched m = Watched.shotOf(SIX + "o99,99,8;h0,0,0;");
        Check.filled(m, 0, 4, 1, 0, 0, 5, 5);
        Check.filled(m, 0, 5, 3, 27, 0, NONE, 6);
        Check.same("filled(0, 6, 0)", m.filled(0, 6, 0), BAD);
    }

    // ---- promise 23: tried

    static void promise23_badOutOfMinus8To8AndWhats() {
        for (int by : new int[] {-9, 9, -10, 10, LEAST, MOST}) {
            Refused.call("tried(" + by + ", 0)", Ways.TAUGHT, BAD, m -> m.tried(by, 0));
        }
        for (int what : new int[] {-1, 7, 8, 9, LEAST, MOST}) {
            Refused.call("tried(0, " + what + ")", Ways.TAUGHT, BAD, m -> m.tried(0, what));
        }
    }

    static void promise23_speeds1AtLeast9AtMost() {
        Watched m = Watched.laid("v30,1,9;v30,1,9;s0,5;o99,99,1;h0,0,0;");
        int[] places = {1, 1, 1, 1, 1, 2, 3, 4, 5, 6, 7, 8, 9, 9, 9, 9, 9};
        for (int by = -8; by <= 8; by++) {
            Check.same("place with " + by, 99 - m.tried(by, 3), places[by + 8]);
        }
        m.speed(0, 9);
        Check.same("place with 9 and -8", 99 - m.tried(-8, 3), 1);
        Check.same("place with 9 and 8", 99 - m.tried(8, 3), 9);
        m.speed(0, 1);
        Check.same("place with 1 and -8", 99 - m.tried(-8, 3), 1);
        Check.same("place with 1 and 8", 99 - m.tried(8, 3), 9);
    }

    /** Of 2 and 9 each has its own end. */
    static void promise23_eachSpeedOfAStage() {
        Watched m = Watched.laid("v30,1,9;v30,1,9;s0,2;s1,9;o99,99,2;h0,0,0;");
        int[] places = {2, 3, 4, 5, 6, 7, 8, 9, 11, 12, 13, 14, 15, 16, 17, 18, 18};
        for (int by = -8; by <= 8; by++) {
            Check.same("place with " + by, 99 - m.tried(by, 3), places[by + 8]);
        }
    }

    static void promise23_isTheShotThatWouldBeMade() {
        Watched m = new Watched();
        for (int by = -8; by <= 8; by++) {
            int[] due = new int[7];
            for (int what = 0; what < 7; what++) {
                due[what] = m.tried(by, what);
            }
            Watched made = new Watched();
            int[] speeds = {2, 5, 3};
            for (int k = 0; k < 3; k++) {
                made.speed(k, Math.max(1, Math.min(9, speeds[k] + by)));
            }
            made.cycle();
            Check.shot(made, 0, due);
        }
    }

    static void promise23_whateverTheMouldAndTheCores() {
        for (String name : new String[] {"new", "shut", "one core in", "ready", "hot", "cool", "cool, all cores out", "taught"}) {
            Watched m = Ways.gone(Ways.all().get(name));
            int[] due = {10, 16, 1, 66, 2, 25, 72};
            for (int what = 0; what < 7; what++) {
                Check.same(name + ", tried(0, " + what + ")", m.tried(0, what), due[what]);
            }
        }
    }

    static void promise23_asItWouldBeNow() {
        Watched m = Ways.gone(Ways.HOT);
        m.drag(0, 9);
        m.tell(5, 77);
        Check.same("cools as told now", m.tried(0, 5), m.tried(0, 1) + 77);
        int[] now = new int[7];
        for (int what = 0; what < 7; what++) {
            now[what] = m.tried(0, what);
        }
        m.empty();
        m.cycle();
        Check.shot(m, 1, now);
    }

    static void promise23_changesNothing() {
        for (String name : Ways.all().keySet()) {
            Watched asked = Ways.gone(Ways.all().get(name));
            for (int by = -8; by <= 8; by++) {
                asked.tried(by, 4);
            }
            Check.alike(name, Looks.all(asked), Looks.all(Ways.gone(Ways.all().get(name))));
        }
    }

    // ---- promise 24: even

    static void promise24_badWithNoWhat() {
        for (int what : new int[] {-1, 2, 3, LEAST, MOST}) {
            Refused.call("even(" + what + ")", Ways.TAUGHT, BAD, m -> m.even(what));
        }
    }

    private static Watched even(String text, int change, int balance) {
        Watched m = Watched.laid(text);
        Check.same("even(0) of " + text, m.even(0), change + 8);
        Check.same("even(1) of " + text, m.even(1), balance);
        Check.same("tried(" + change + ", 4) of " + text, m.tried(change, 4), balance);
        return m;
    }

    static void promise24_noneWhenItIsLeastNow() {
        even("v2,1,1;s0,5;", 0, 0);
        even("v3,1,1;v3,1,1;s0,6;o40,99,40;h0,0,0;", 0, 0);
    }

    /** Full at places 5 and 6: apart with a speed of 5, in one tick with 4 and with 6. */
    static void promise24_ofTwoTheLower() {
        Watched m = even("v3,1,1;v3,1,1;s0,5;o40,99,40;h0,0,0;", -1, 0);
        Check.same("tried(1, 4)", m.tried(1, 4), 0);
        Check.same("tried(0, 4)", m.tried(0, 4), 1);
    }

    /** Full at places 1 and 3: in one tick with a speed of 3 or more. */
    static void promise24_theNearestTo0() {
        Watched m = even("v1,1,1;v2,1,1;s0,1;o5,99,40;h0,0,0;", 2, 0);
        Check.same("tried(0, 4)", m.tried(0, 4), 2);
        Check.same("tried(1, 4)", m.tried(1, 4), 1);
        Check.same("tried(3, 4)", m.tried(3, 4), 0);
    }

    /** Full at places 1 and 9: in one tick with a speed of 9 alone. */
    static void promise24_eightMore() {
        Watched m = even("v1,1,1;v8,1,1;s0,1;o40,99,40;h0,0,0;", 8, 0);
        Check.same("tried(0, 4)", m.tried(0, 4), 8);
        Check.same("tried(7, 4)", m.tried(7, 4), 1);
    }

    /** With a speed of 1 the switch comes ahead of the second that would be full. */
    static void promise24_eightLess() {
        Watched m = even("v1,1,1;v20,1,1;s0,9;o99,99,20;h0,0,0;", -8, 0);
        Check.same("tried(-7, 4)", m.tried(-7, 4), 10);
        Check.same("tried(0, 4)", m.tried(0, 4), 2);
    }

    static void promise24_changesNothing() {
        for (String name : Ways.all().keySet()) {
            Watched asked = Ways.gone(Ways.all().get(name));
            asked.even(0);
            asked.even(1);
            Check.alike(name, Looks.all(asked), Looks.all(Ways.gone(Ways.all().get(name))));
        }
    }
}
