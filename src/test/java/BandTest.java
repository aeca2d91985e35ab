import java.util.function.Consumer;

/** Promises 15 to 18: teach, forget, wide, band; and what the band says of shots (promise 19, part 2 of the terms). */
final class BandTest {
    private static final int BAD = MouldShots.BAD, NO = MouldShots.NO, NONE = MouldShots.NONE;
    private static final int MOST = Integer.MAX_VALUE, LEAST = Integer.MIN_VALUE;
    private static final int TIME = 2, PRESSURE = 3, TICKS = 4;
    /** Its curve is 1, 2, 3 and five times 50: full at 3, frozen in the hold. */
    private static final String PLAIN = "v3,1,1;s0,1;o99,99,3;h50,5,0;";
    /** Its last tick is the 60th. */
    private static final String LONGEST = "v20,1,9;v20,1,9;s0,1;o99,99,40;h30,20,0;";

    private BandTest() { }

    private static Consumer<Watched> shotWith(String text, int what, int v) {
        return Ways.laid(text).andThen(m -> m.tell(what, v)).andThen(Ways.FALLEN);
    }

    private static Watched plainTaught() {
        Watched m = Watched.shotOf(PLAIN);
        Check.same("teach(0)", m.teach(0), 1);
        return m;
    }

    private static void band(Watched m, int what, int... due) {
        for (int tick = 1; tick <= due.length; tick++) {
            Check.same("band(" + tick + ", " + what + ")", m.band(tick, what), due[tick - 1]);
        }
        Check.same("band behind its end", m.band(due.length + 1, what), due.length < 60 ? NONE : BAD);
    }

    // ---- promise 15: teach

    static void promise15_badWithNoShot() {
        for (int s : new int[] {-1, 0, 1, 11, LEAST, MOST}) {
            Refused.call("teach(" + s + "), none made", Ways.SHUT, BAD, m -> m.teach(s));
        }
        for (int s : new int[] {-1, 1, 2, 12, LEAST, MOST}) {
            Refused.call("teach(" + s + "), one made", Ways.FALLEN, BAD, m -> m.teach(s));
        }
        for (int s : new int[] {-1, 12, 16, 17}) {
            Refused.call("teach(" + s + "), 17 made", Ways.MANY_SHOTS, BAD, m -> m.teach(s));
        }
        Consumer<Watched> undone = Ways.HOT.andThen(Watched::undo);
        Refused.call("teach(0), the shot undone", undone, BAD, m -> m.teach(0));
    }

    static void promise15_noWhileACavityIsShort() {
        Refused.call("teach(0), short by 1", shotWith(PLAIN, TIME, 2), NO, m -> m.teach(0));
        Refused.call("teach(0), short by 2", shotWith(PLAIN, TIME, 1), NO, m -> m.teach(0));
        Check.same("teach(0), not short", Ways.gone(shotWith(PLAIN, TICKS, 3)).teach(0), 1);
    }

    static void promise15_noWhicheverCavityIsShort() {
        String hold = "s0,1;o99,99,9;h0,0,0;";
        Refused.call("the first", Ways.laid("v9,9,1;v3,1,1;" + hold).andThen(Ways.FALLEN), NO, m -> m.teach(0));
        Refused.call("the last", Ways.laid("v3,1,1;v9,9,1;" + hold).andThen(Ways.FALLEN), NO, m -> m.teach(0));
        String five = "v1,1,1;v1,1,1;v1,1,1;v1,1,1;v1,1,1;";
        Refused.call("the sixth", Ways.laid(five + "v5,1,1;" + hold).andThen(Ways.FALLEN), NO, m -> m.teach(0));
        Check.same("none of six", Watched.shotOf(five + "v4,1,1;" + hold).teach(0), 1);
    }

    static void promise15_anOverfullOneMayTeach() {
        Watched m = Ways.gone(shotWith(PLAIN, TIME, 9));
        Check.filled(m, 0, 0, 9, 0, 6);
        Check.same("it is bad", m.shot(0, 8), 1);
        Check.same("teach(0)", m.teach(0), 1);
    }

    static void promise15_whateverStands() {
        Check.same("hot", Ways.gone(Ways.HOT).teach(0), 1);
        Check.same("cool", Ways.gone(Ways.COOL).teach(0), 1);
        Check.same("ready again", Ways.gone(Ways.FALLEN.andThen(Ways.READY)).teach(0), 1);
    }

    static void promise15_tellsByHowManyItIsThen() {
        Watched m = plainTaught();
        m.cycle();
        Check.same("teach(1)", m.teach(1), 2);
        Check.same("teach(0) again", m.teach(0), 3);
        Check.same("count(8)", m.count(8), 3);
        m.forget();
        Check.same("teach(0), forgotten", m.teach(0), 1);
    }

    static void promise15_zeroIsTheOldestThatIsKept() {
        Watched m = Watched.laid(PLAIN);
        for (int i = 1; i <= 17; i++) {
            m.cycleWith(PRESSURE, 10 + i);
        }
        m.teach(0);
        Check.same("the 6th taught", m.band(4, 0), 16);
        m.teach(11);
        Check.same("the 17th taught", m.band(4, 1), 27);
        Check.same("the 6th taught", m.band(4, 0), 16);
    }

    // ---- promise 16: forget

    static void promise16_noByNone() {
        Refused.call("forget(), new", Ways.NEW, NO, Watched::forget);
        Refused.call("forget(), a shot made", Ways.FALLEN, NO, Watched::forget);
        Refused.call("forget(), forgotten", Ways.FORGOTTEN, NO, Watched::forget);
        Refused.call("forget(), taught undone", Ways.TAUGHT.andThen(Watched::undo), NO, Watched::forget);
        Refused.call("forget(), laid", Ways.TAUGHT.andThen(m -> m.layAnew(PLAIN)), NO, Watched::forget);
    }

    static void promise16_tellsByHowManyItWas() {
        for (int taught = 1; taught <= 15; taught += 7) {
            Watched m = Watched.shotOf(PLAIN);
            for (int i = 1; i <= taught; i++) {
                m.teach(0);
            }
            Check.same("forget()", m.forget(), taught);
            Check.same("count(8)", m.count(8), 0);
            Check.same("forget() again", m.forget(), NO);
        }
    }

    static void promise16_nothingIsLeftOfTheBand() {
        Watched m = plainTaught();
        m.forget();
        Check.same("band(1, 0)", m.band(1, 0), NONE);
        Check.same("band(8, 1)", m.band(8, 1), NONE);
        Check.same("shot(0, 7)", m.shot(0, 7), NONE);
        int s = m.cycleWith(PRESSURE, 70);
        m.tell(TICKS, 1);
        Check.same("not bad by a band that is forgotten", m.shot(s, 8), 0);
        s = m.cycleWith(PRESSURE, 60);
        m.teach(s);
        band(m, 0, 1, 2, 3, 60);
        band(m, 1, 1, 2, 3, 60);
        s = m.cycleWith(TICKS, 3);
        Check.same("longer by 2 than the one that taught", m.shot(s, 8), 1);
    }

    // ---- promise 17: wide

    static void promise17_badOutOf0To20() {
        for (int w : new int[] {-1, 21, LEAST, MOST}) {
            Refused.call("wide(" + w + ")", Ways.TAUGHT, BAD, m -> m.wide(w));
        }
    }

    static void promise17_noWhenItIsSo() {
        Refused.call("wide(2)", Ways.NEW, NO, m -> m.wide(2));
        Refused.call("wide(5), told anew", Ways.TOLD_ANEW, NO, m -> m.wide(5));
        Refused.call("wide(0)", Ways.TAUGHT.andThen(m -> m.wide(0)), NO, m -> m.wide(0));
        Refused.call("wide(20)", Ways.TAUGHT.andThen(m -> m.wide(20)), NO, m -> m.wide(20));
    }

    static void promise17_from0To20() {
        Watched m = new Watched();
        int was = 2;
        for (int w : new int[] {0, 20, 1, 19, 10, 2}) {
            Check.same("wide(" + w + ")", m.wide(w), was);
            Check.same("count(9)", m.count(9), w);
            was = w;
        }
    }

    // ---- promise 18: band

    static void promise18_badOutOfTicksAndWhats() {
        int[][] wrong = {{0, 0}, {61, 0}, {-1, 1}, {62, 1}, {LEAST, 0}, {MOST, 1}, {1, 2}, {1, -1}, {60, 2}, {1, MOST}, {1, LEAST}};
        for (int[] w : wrong) {
            String call = "band(" + w[0] + ", " + w[1] + ")";
            Refused.call(call + ", taught", Ways.TAUGHT, BAD, m -> m.band(w[0], w[1]));
            Refused.call(call + ", nothing taught", Ways.NEW, BAD, m -> m.band(w[0], w[1]));
        }
    }

    static void promise18_noneWithNothingTaught() {
        Refused.call("band(1, 0), new", Ways.NEW, NONE, m -> m.band(1, 0));
        Refused.call("band(60, 1), new", Ways.NEW, NONE, m -> m.band(60, 1));
        Refused.call("band(1, 0), a shot made", Ways.FALLEN, NONE, m -> m.band(1, 0));
        Refused.call("band(1, 0), forgotten", Ways.FORGOTTEN, NONE, m -> m.band(1, 0));
    }

    static void promise18_noneBehindTheLastTickOfAnyTaughtOne() {
        Watched m = Ways.gone(Ways.TAUGHT);
        Check.same("band(16, 0)", m.band(16, 0), 50);
        Check.same("band(16, 1)", m.band(16, 1), 50);
        Refused.call("band(17, 0)", Ways.TAUGHT, NONE, n -> n.band(17, 0));
        Refused.call("band(17, 1)", Ways.TAUGHT, NONE, n -> n.band(17, 1));
        Refused.call("band(60, 0)", Ways.TAUGHT, NONE, n -> n.band(60, 0));
    }

    static void promise18_theSixtiethTick() {
        Watched m = Watched.shotOf(LONGEST);
        m.teach(0);
        Check.same("band(1, 0)", m.band(1, 0), 1);
        Check.same("band(60, 0)", m.band(60, 0), 30);
        Check.same("band(60, 1)", m.band(60, 1), 30);
        Check.same("band(61, 0)", m.band(61, 0), BAD);
        m.cycleWith(TICKS, 19);
        m.teach(1);
        Check.same("band(60, 0)", m.band(60, 0), 0);
        Check.same("band(60, 1)", m.band(60, 1), 30);
    }

    static void promise18_leastAndGreatestOfOne() {
        Watched m = plainTaught();
        band(m, 0, 1, 2, 3, 50, 50, 50, 50, 50);
        band(m, 1, 1, 2, 3, 50, 50, 50, 50, 50);
    }

    private static final int[] LEAST_OF_TWO = {1, 2, 3, 30, 30, 30, 30, 30, 0, 0};
    private static final int[] GREATEST_OF_TWO = {4, 8, 12, 50, 50, 50, 50, 50, 30, 30};

    static void promise18_leastAndGreatestOfTwoALongerOneBehind() {
        Watched m = plainTaught();
        m.drag(0, 4);
        m.tell(PRESSURE, 30);
        int s = m.cycleWith(TICKS, 7);
        Check.curve(m, s, 4, 8, 12, 30, 30, 30, 30, 30, 30, 30);
        m.teach(s);
        band(m, 0, LEAST_OF_TWO);
        band(m, 1, GREATEST_OF_TWO);
    }

    static void promise18_leastAndGreatestOfTwoAShorterOneBehind() {
        Watched m = Watched.laid(PLAIN);
        m.drag(0, 4);
        m.tell(PRESSURE, 30);
        m.teach(m.cycleWith(TICKS, 7));
        m.drag(0, 1);
        m.tell(PRESSURE, 50);
        m.teach(m.cycleWith(TICKS, 5));
        band(m, 0, LEAST_OF_TWO);
        band(m, 1, GREATEST_OF_TWO);
    }

    static void promise18_aTickThatOneOfThreeHasNot() {
        Watched m = plainTaught();
        m.teach(0);
        m.teach(m.cycleWith(TICKS, 4));
        band(m, 0, 1, 2, 3, 50, 50, 50, 50, 0);
        band(m, 1, 1, 2, 3, 50, 50, 50, 50, 50);
    }

    static void promise18_aHoldWithoutPressureIsATickAllTheSame() {
        Watched m = Watched.laid(PLAIN);
        m.teach(m.cycleWith(PRESSURE, 0));
        band(m, 0, 1, 2, 3, 0, 0, 0, 0, 0);
        band(m, 1, 1, 2, 3, 0, 0, 0, 0, 0);
    }

    static void promise18_staysWhenTheShotIsNoLongerKept() {
        Watched m = plainTaught();
        m.tell(PRESSURE, 9);
        for (int i = 0; i < 18; i++) {
            m.cycle();
        }
        Check.same("curve(0, 4)", m.curve(0, 4), 9);
        band(m, 0, 1, 2, 3, 50, 50, 50, 50, 50);
        Check.same("amiss by what was taught", m.shot(0, 7), 5);
    }

    // ---- promise 19: amiss and bad; terms, part 2: THE BAND

    static void promise19_noneAmissWithNothingTaught() {
        Refused.call("shot(0, 7)", Ways.FALLEN, NONE, m -> m.shot(0, 7));
        Refused.call("shot(0, 7), forgotten", Ways.FORGOTTEN, NONE, m -> m.shot(0, 7));
        Refused.call("shot(1, 7), no shot", Ways.FALLEN, BAD, m -> m.shot(1, 7));
        Check.same("shot(0, 8)", Ways.gone(Ways.FALLEN).shot(0, 8), 0);
        Check.same("shot(0, 7), taught", Ways.gone(Ways.TAUGHT).shot(0, 7), 0);
    }

    private static void amiss(int wide, int pressure, int due) {
        Watched m = plainTaught();
        m.teach(m.cycleWith(PRESSURE, 60));
        m.wide(wide);
        int s = m.cycleWith(PRESSURE, pressure);
        String what = "WIDE " + wide + ", PRESSURE " + pressure;
        Check.same(what + ", amiss", m.shot(s, 7), due);
        Check.same(what + ", bad", m.shot(s, 8), due > 1 ? 1 : 0);
    }

    /** The band is 50 to 60 in the 5 ticks of the hold. */
    static void terms2_amissBelowTheLeastLessWide() {
        amiss(2, 48, 0);
        amiss(2, 47, 5);
        amiss(0, 50, 0);
        amiss(0, 49, 5);
        amiss(20, 30, 0);
        amiss(20, 29, 5);
        amiss(20, 0, 5);
    }

    static void terms2_amissAboveTheGreatestAndWide() {
        amiss(2, 62, 0);
        amiss(2, 63, 5);
        amiss(0, 60, 0);
        amiss(0, 61, 5);
        amiss(20, 80, 0);
        amiss(20, 81, 5);
        amiss(20, 99, 5);
    }

    static void terms2_wideIs2AtFirst() {
        Watched m = plainTaught();
        Check.same("amiss with 52", m.shot(m.cycleWith(PRESSURE, 52), 7), 0);
        Check.same("amiss with 53", m.shot(m.cycleWith(PRESSURE, 53), 7), 5);
        Check.same("amiss with 48", m.shot(m.cycleWith(PRESSURE, 48), 7), 0);
        Check.same("amiss with 47", m.shot(m.cycleWith(PRESSURE, 47), 7), 5);
    }

    static void terms2_amissInTheFill() {
        Watched m = plainTaught();
        int[] drags = {2, 3, 4, 9};
        int[] amiss = {1, 2, 3, 3};
        for (int i = 0; i < drags.length; i++) {
            m.drag(0, drags[i]);
            m.cycle();
            Check.same("amiss with drag " + drags[i], m.shot(i + 1, 7), amiss[i]);
        }
    }

    static void terms2_amissInATickThatTheShotHasNot() {
        Watched m = plainTaught();
        Check.same("one tick fewer", m.shot(m.cycleWith(TICKS, 4), 7), 1);
        Check.same("five ticks fewer", m.shot(m.cycleWith(TICKS, 0), 7), 5);
        m.tell(TICKS, 5);
        m.forget();
        m.teach(m.cycleWith(PRESSURE, 2));
        Check.same("pressure 0 is near enough to 2", m.shot(m.cycleWith(TICKS, 0), 7), 0);
        m.wide(1);
        Check.same("it is not to 2 less 1", m.shot(4, 7), 5);
    }

    static void terms2_amissInATickThatNoTaughtOneHas() {
        Watched m = plainTaught();
        Check.same("one tick more", m.shot(m.cycleWith(TICKS, 6), 7), 1);
        Check.same("fifteen ticks more", m.shot(m.cycleWith(TICKS, 20), 7), 15);
        m.wide(20);
        m.forget();
        m.tell(TICKS, 5);
        m.teach(m.cycleWith(PRESSURE, 20));
        Check.same("20 is near enough to 0", m.shot(m.cycleWith(TICKS, 9), 7), 0);
        m.wide(19);
        Check.same("it is not to 0 and 19", m.shot(4, 7), 4);
    }

    static void terms2_amissInTheSixtiethTick() {
        Watched m = Watched.shotOf(LONGEST);
        m.teach(0);
        m.cycleWith(TICKS, 19);
        Check.same("without the 60th", m.shot(1, 7), 1);
        m.cycleWith(TICKS, 18);
        Check.same("without the 59th and 60th", m.shot(2, 7), 2);
        m.forget();
        m.teach(1);
        Check.same("with a 60th, too", m.shot(0, 7), 1);
    }

    static void terms2_badAmissInMoreThanOneTick() {
        Watched m = Watched.laid(PLAIN);
        m.teach(m.cycleWith(TICKS, 1));
        int one = m.cycleWith(PRESSURE, 53);
        Check.same("amiss in one", m.shot(one, 7), 1);
        Check.same("not bad", m.shot(one, 8), 0);
        int two = m.cycleWith(TICKS, 2);
        Check.same("amiss in one and in one too many", m.shot(two, 7), 2);
        Check.same("bad", m.shot(two, 8), 1);
        m.wide(3);
        Check.same("amiss in the one too many", m.shot(two, 7), 1);
        Check.same("not bad", m.shot(two, 8), 0);
    }

    /** With PRESSURE 2 in the hold nothing is amiss: the length alone tells. */
    private static void badByLength(int ticks, int bad) {
        Watched m = Watched.laid(PLAIN);
        m.tell(PRESSURE, 2);
        m.teach(m.cycleWith(TICKS, 6));
        m.teach(m.cycleWith(TICKS, 9));
        int s = m.cycleWith(TICKS, ticks);
        Check.same(ticks + " of 6 to 9, amiss", m.shot(s, 7), 0);
        Check.same(ticks + " of 6 to 9, bad", m.shot(s, 8), bad);
        m.forget();
        m.teach(1);
        m.teach(0);
        Check.same(ticks + " of 9 to 6, bad", m.shot(s, 8), bad);
    }

    static void terms2_badMoreThanOneTickShorter() {
        badByLength(6, 0);
        badByLength(5, 0);
        badByLength(4, 1);
        badByLength(0, 1);
    }

    static void terms2_badMoreThanOneTickLonger() {
        badByLength(9, 0);
        badByLength(10, 0);
        badByLength(11, 1);
        badByLength(20, 1);
    }

    static void terms2_lengthIsOfFillAndHoldTogether() {
        Watched m = Watched.laid("v3,1,1;s0,1;o99,99,3;h2,5,99;");
        m.cycle();
        m.teach(0);
        m.tell(5, 0);
        int s = m.cycleWith(TIME, 4);
        Check.filled(m, s, 0, 4, 0, 1);
        Check.same("longer by 1 in the fill, less COOL", m.shot(s, 8), 0);
        m.tell(TICKS, 6);
        m.cycle();
        Check.same("longer by 1 in each", m.shot(2, 1), 10);
        Check.same("bad", m.shot(2, 8), 1);
        m.tell(TICKS, 4);
        m.cycle();
        Check.same("longer in the fill, shorter in the hold", m.shot(3, 1), 8);
        Check.same("not bad", m.shot(3, 8), 0);
    }

    static void terms2_badShortBy2() {
        int[] bad = {1, 0, 0};
        for (int time = 1; time <= 3; time++) {
            Watched m = Ways.gone(shotWith(PLAIN, TIME, time));
            Check.filled(m, 0, 0, time, 3 - time, 0);
            Check.same("bad", m.shot(0, 8), bad[time - 1]);
        }
    }

    static void terms2_badOverBy2() {
        int[] bad = {0, 0, 1, 1};
        for (int time = 3; time <= 6; time++) {
            Watched m = Ways.gone(shotWith(PLAIN, TIME, time));
            Check.filled(m, 0, 0, time, 0, time - 3);
            Check.same("bad", m.shot(0, 8), bad[time - 3]);
        }
    }

    static void terms2_badByAnyCavity() {
        String hold = "s0,1;o99,99,9;h0,0,0;";
        Check.same("the first short", Watched.shotOf("v9,9,1;v3,1,1;" + hold).shot(0, 8), 1);
        Check.same("the last short", Watched.shotOf("v3,1,1;v9,9,1;" + hold).shot(0, 8), 1);
        String five = "v1,1,1;v1,1,1;v1,1,1;v1,1,1;v1,1,1;";
        Check.same("the sixth short by 2", Watched.shotOf(five + "v6,1,1;" + hold).shot(0, 8), 1);
        Check.same("the sixth short by 1", Watched.shotOf(five + "v5,1,1;" + hold).shot(0, 8), 0);
        Watched apart = Watched.shotOf("v1,1,1;v1,1,1;s0,1;o99,99,4;h0,0,0;");
        Check.has(apart, 0, 2, 2);
        Check.same("two that are over by 1", apart.shot(0, 8), 0);
    }

    static void terms2_badThoughItTaught() {
        Watched m = Ways.gone(shotWith(PLAIN, TIME, 9));
        m.teach(0);
        Check.same("amiss", m.shot(0, 7), 0);
        Check.same("bad, over by 6", m.shot(0, 8), 1);
    }

    static void terms2_theBandTellsOfShotsMadeAheadOfIt() {
        Watched m = Watched.shotOf(PLAIN);
        m.cycleWith(PRESSURE, 90);
        Check.same("not bad", m.shot(1, 8), 0);
        m.teach(0);
        Check.same("bad", m.shot(1, 8), 1);
        m.teach(1);
        Check.same("taught, too", m.shot(1, 8), 0);
        m.undo();
        Check.same("that undone", m.shot(1, 8), 1);
        m.undo();
        Check.same("nothing taught", m.shot(1, 8), 0);
    }
}
