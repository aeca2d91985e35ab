/** Part 2 of the terms: how a shot goes, tick by tick, in the fill and in the hold. */
final class FillTest {
    private static final int NONE = MouldShots.NONE;
    private static final String SIX_WIDE = "v30,9,9;v30,9,9;v30,1,9;v30,1,9;v30,1,9;v30,1,9;";
    private static final String NO_HOLD = "h0,0,0;";

    private FillTest() { }

    private static void curveOf(String text, int... due) {
        Check.curve(Watched.shotOf(text), 0, due);
    }

    private static void hasOf(String text, int... due) {
        Check.has(Watched.shotOf(text), 0, due);
    }

    private static void shotOf(String text, int... due) {
        Check.shot(Watched.shotOf(text), 0, due);
    }

    // ---- the screw

    static void terms2_stageFromItsPlaceOn() {
        curveOf("v30,1,9;s0,2;s4,5;o99,99,4;" + NO_HOLD, 2, 4, 9, 14);
        curveOf("v30,1,9;s0,2;s5,5;o99,99,4;" + NO_HOLD, 2, 4, 6, 11);
        curveOf("v30,1,9;s0,2;s3,5;o99,99,4;" + NO_HOLD, 2, 4, 9, 14);
        curveOf("v30,1,9;s0,2;s5,4;s9,1;o99,99,6;" + NO_HOLD, 2, 4, 6, 10, 11, 12);
    }

    static void terms2_theLastStageWhosePlaceItHas() {
        curveOf("v30,1,9;s0,9;s4,1;s7,3;o99,99,3;" + NO_HOLD, 9, 12, 15);
        curveOf("v30,1,9;s0,9;s4,1;s9,3;o99,99,3;" + NO_HOLD, 9, 12, 15);
        curveOf("v30,1,9;s0,9;s4,1;s10,3;o99,99,3;" + NO_HOLD, 9, 10, 13);
        curveOf("v30,1,9;s0,1;s1,2;s2,7;s3,4;o99,99,4;" + NO_HOLD, 1, 3, 7, 11);
    }

    static void terms2_theStageAt98() {
        String text = SIX_WIDE + "s0,7;s98,1;o99,99,40;" + NO_HOLD;
        shotOf(text, 15, 15, 0, 0);
        String behind = SIX_WIDE + "s0,9;s90,7;s97,1;s98,2;o98,99,40;" + NO_HOLD;
        shotOf(behind, 12, 12, 0, 1);
    }

    /** By 9 it comes to 99 just so, by 8 and by 7 it would go past it. */
    static void terms2_the99thPlaceIsTheLast() {
        int[] ticks = {13, 15, 17, 20};
        for (int speed = 8; speed >= 5; speed--) {
            Watched m = Watched.shotOf(SIX_WIDE + "s0," + speed + ";o99,99,40;" + NO_HOLD);
            Check.shot(m, 0, ticks[8 - speed], ticks[8 - speed], 0, 0);
            int melt = 0;
            for (int c = 0; c < 6; c++) {
                melt += m.filled(0, c, 0);
            }
            Check.same("melt of the whole way", melt, 99);
        }
        shotOf(SIX_WIDE + "s0,9;o99,99,40;" + NO_HOLD, 11, 11, 0, 0);
    }

    // ---- where the melt goes

    static void terms2_allAreEmptyAtFirst() {
        String text = "v30,9,9;v30,1,9;s0,1;o99,99,%d;" + NO_HOLD;
        Watched m = Watched.shotOf(String.format(text, 8));
        Check.filled(m, 0, 0, 0, 30, 0, NONE, NONE);
        Check.filled(m, 0, 1, 8, 22, 0, NONE, 1);
        Check.filled(Watched.shotOf(String.format(text, 9)), 0, 0, 1, 29, 0, NONE, 9);
    }

    static void terms2_effortIsDragTimesWhatItHasAndOne() {
        curveOf("v9,2,9;v9,3,9;s0,1;o99,99,7;" + NO_HOLD, 2, 3, 4, 6, 6, 8, 9);
        hasOf("v9,2,9;v9,3,9;s0,1;o99,99,3;" + NO_HOLD, 2, 1);
        hasOf("v9,2,9;v9,3,9;s0,1;o99,99,6;" + NO_HOLD, 4, 2);
    }

    static void terms2_ofSeveralTheLowest() {
        hasOf("v9,2,9;v9,2,9;v9,2,9;s0,1;o99,99,1;" + NO_HOLD, 1, 0, 0);
        hasOf("v9,2,9;v9,2,9;v9,2,9;s0,1;o99,99,2;" + NO_HOLD, 1, 1, 0);
        hasOf("v9,2,9;v9,2,9;v9,2,9;s0,1;o99,99,4;" + NO_HOLD, 2, 1, 1);
        hasOf("v9,2,9;v9,3,9;s0,1;o99,99,4;" + NO_HOLD, 3, 1);
        hasOf("v9,3,9;v9,2,9;s0,1;o99,99,4;" + NO_HOLD, 2, 2);
    }

    static void terms2_noneIntoOneThatIsFull() {
        String text = "v2,1,9;v30,9,9;s0,1;o99,99,%d;" + NO_HOLD;
        hasOf(String.format(text, 2), 2, 0);
        hasOf(String.format(text, 3), 2, 1);
        curveOf(String.format(text, 4), 1, 2, 9, 18);
        hasOf("v30,9,9;v1,1,9;s0,1;o99,99,3;" + NO_HOLD, 2, 1);
    }

    static void terms2_intoFullOnesWhenAllAre() {
        String text = "v1,2,9;v3,1,9;s0,1;o99,99,%d;" + NO_HOLD;
        curveOf(String.format(text, 8), 1, 2, 2, 3, 6, 9, 12, 12);
        hasOf(String.format(text, 4), 1, 3);
        hasOf(String.format(text, 5), 2, 3);
        hasOf(String.format(text, 6), 2, 4);
        hasOf(String.format(text, 7), 3, 4);
    }

    static void terms2_ofSeveralFullOnesTheLowest() {
        String text = "v2,1,9;v2,1,9;s0,1;o99,99,%d;" + NO_HOLD;
        curveOf(String.format(text, 6), 1, 1, 2, 2, 6, 6);
        hasOf(String.format(text, 5), 3, 2);
        hasOf(String.format(text, 6), 3, 3);
    }

    // ---- the pressure

    static void terms2_pressureIsTheGreatestEffort() {
        String text = "v1,1,9;v1,9,9;s0,%d;o99,99,1;" + NO_HOLD;
        curveOf(String.format(text, 1), 1);
        curveOf(String.format(text, 2), 9);
        curveOf(String.format(text, 3), 9);
        curveOf(String.format(text, 4), 9);
        curveOf(String.format(text, 5), 9);
        curveOf(String.format(text, 6), 12);
        curveOf("v1,1,9;v1,9,9;s0,1;o99,99,6;" + NO_HOLD, 1, 9, 3, 6, 9, 12);
    }

    static void terms2_pressureAsItWasWhenItCame() {
        curveOf("v3,2,9;v2,3,9;s0,5;o99,99,1;" + NO_HOLD, 6);
        curveOf("v3,2,9;s0,3;o99,99,1;" + NO_HOLD, 6);
        curveOf("v3,2,9;s0,4;o99,99,1;" + NO_HOLD, 18);
    }

    static void terms2_threeTimesWhatAFullOneHad() {
        curveOf("v3,2,2;s0,1;o99,99,5;" + NO_HOLD, 2, 4, 6, 18, 24);
        curveOf("v1,9,9;s0,1;o99,99,4;" + NO_HOLD, 9, 27, 54, 81);
    }

    static void terms2_pressure99AtMost() {
        curveOf("v11,3,9;s0,6;o99,99,2;" + NO_HOLD, 18, 99);
        curveOf("v12,3,9;s0,7;o99,99,2;" + NO_HOLD, 21, 99);
        shotOf("v1,9,9;s0,9;o99,99,9;" + NO_HOLD, 1, 1, 1, 90, 0, 1, 99);
        shotOf("v1,9,9;s0,9;o9,99,9;" + NO_HOLD, 1, 1, 0, 90, 0, 1, 99);
    }

    // ---- the switch

    static void terms2_switchAtThePlaceOrFarther() {
        String text = "v30,1,9;s0,2;h0,0,0;o%d,99,40;";
        int[] ticks = {1, 1, 2, 2, 3, 3, 4};
        for (int place = 1; place <= 7; place++) {
            int due = ticks[place - 1];
            shotOf(String.format(text, place), due, due, 0, 99 - 2 * due);
        }
        shotOf(SIX_WIDE + "s0,9;h0,0,0;o99,99,40;", 11, 11, 0, 0);
    }

    static void terms2_switchAtThePressureOrMore() {
        String text = "v30,1,9;s0,2;h0,0,0;o99,%d,40;";
        int[] ticks = {1, 1, 2, 2, 3, 3, 4};
        for (int pressure = 1; pressure <= 7; pressure++) {
            int due = ticks[pressure - 1];
            shotOf(String.format(text, pressure), due, due, 1, 99 - 2 * due);
        }
        shotOf("v11,3,9;s0,1;h0,0,0;o99,99,40;", 12, 12, 1, 87);
        shotOf("v11,3,9;s0,1;h0,0,0;o99,98,40;", 12, 12, 1, 87);
    }

    static void terms2_switchWhenTheTimeHasGoneBy() {
        for (int time = 1; time <= 40; time += 13) {
            shotOf("v30,1,9;v30,1,9;s0,1;h0,0,0;o99,99," + time + ";", time, time, 2, 99 - time);
        }
        shotOf("v30,1,9;v30,1,9;s0,1;h0,0,0;o99,99,39;", 39, 39, 2, 60);
        shotOf("v30,1,9;v30,1,9;s0,1;h0,0,0;o99,99,40;", 40, 40, 2, 59);
    }

    static void terms2_theLowestTellsWhy() {
        String text = "v30,1,9;s0,2;h0,0,0;";
        shotOf(text + "o6,6,3;", 3, 3, 0);
        shotOf(text + "o7,6,3;", 3, 3, 1);
        shotOf(text + "o6,7,3;", 3, 3, 0);
        shotOf(text + "o7,7,3;", 3, 3, 2);
        shotOf(text + "o6,6,4;", 3, 3, 0);
        shotOf(text + "o1,1,1;", 1, 1, 0);
        shotOf(text + "o3,1,1;", 1, 1, 1);
        shotOf(text + "o3,3,1;", 1, 1, 2);
    }

    // ---- the hold

    static void terms2_holdOf0To20Ticks() {
        String text = "v30,1,9;s0,1;o99,99,2;h50,%d,0;";
        shotOf(String.format(text, 0), 2, 2, 2, 97);
        shotOf(String.format(text, 1), 2, 3, 2, 96);
        shotOf(String.format(text, 20), 2, 22, 2, 90);
        curveOf(String.format(text, 0), 1, 2);
        curveOf(String.format(text, 1), 1, 2, 50);
    }

    static void terms2_holdOnlyBelowItsPressure() {
        String text = "v30,5,9;s0,1;o99,99,2;";
        hasOf(text + "h9,4,0;", 2);
        hasOf(text + "h10,4,0;", 2);
        hasOf(text + "h11,4,0;", 3);
        hasOf(text + "h15,4,0;", 3);
        hasOf(text + "h16,4,0;", 4);
        curveOf(text + "h16,4,0;", 5, 10, 16, 16, 16, 16);
    }

    static void terms2_holdWithPressure0And1() {
        String text = "v30,9,9;v30,1,9;s0,1;o99,99,1;";
        hasOf(text + "h0,3,0;", 0, 1);
        curveOf(text + "h0,3,0;", 1, 0, 0, 0);
        hasOf(text + "h1,3,0;", 1, 1);
        hasOf(text + "h2,3,0;", 1, 2);
        hasOf(text + "h9,3,0;", 1, 4);
        hasOf(text + "h10,3,0;", 2, 4);
    }

    static void terms2_holdGoesIntoFullOnesToo() {
        Watched m = Watched.shotOf("v2,1,9;v5,1,9;s0,1;o99,99,4;h9,6,0;");
        Check.filled(m, 0, 0, 7, 0, 5, 3, 1);
        Check.filled(m, 0, 1, 8, 0, 3, 7, 2);
        Check.shot(m, 0, 4, 10, 2, 84, 4, 10, 9);
    }

    static void terms2_frozenBehindKTicks() {
        for (int freeze = 1; freeze <= 9; freeze++) {
            Watched m = Watched.shotOf("v30,1," + freeze + ";s0,1;o99,99,3;h99,7,0;");
            int due = Math.max(3, freeze);
            Check.filled(m, 0, 0, due, 30 - due, 0, NONE, 1);
            Check.curve(m, 0, 1, 2, 3, 99, 99, 99, 99, 99, 99, 99);
            Check.shot(m, 0, 3, 10, 2, 99 - due);
        }
    }

    static void terms2_frozenDoesNotMatterInTheFill() {
        hasOf("v30,1,1;s0,1;o99,99,12;h99,3,0;", 12);
        hasOf("v30,1,1;v30,1,1;s0,2;o99,99,9;h99,3,0;", 9, 9);
    }

    static void terms2_frozenEachByItsOwnFirstTick() {
        String text = "v30,1,%d;v30,3,%d;s0,1;o99,99,4;h99,3,0;";
        // the first has melt from tick 1 on, the second from tick 4 on
        hasOf(String.format(text, 1, 1), 3, 1);
        hasOf(String.format(text, 4, 2), 3, 2);
        hasOf(String.format(text, 5, 2), 4, 2);
        hasOf(String.format(text, 5, 3), 4, 3);
        hasOf(String.format(text, 6, 4), 5, 4);
        hasOf(String.format(text, 7, 5), 6, 4);
        hasOf(String.format(text, 8, 6), 6, 4);
    }

    static void terms2_frozenFromItsFirstMeltInTheHold() {
        Watched m = Watched.shotOf("v30,9,1;v30,1,9;s0,1;o99,99,1;h99,3,0;");
        Check.filled(m, 0, 0, 1, 29, 0, NONE, 2);
        Check.filled(m, 0, 1, 4, 26, 0, NONE, 1);
        Check.filled(Watched.shotOf("v30,9,2;v30,1,9;s0,1;o99,99,1;h99,3,0;"), 0, 0, 2, 28, 0, NONE, 2);
        Check.filled(Watched.shotOf("v30,9,3;v30,1,9;s0,1;o99,99,1;h99,3,0;"), 0, 0, 3, 27, 0, NONE, 2);
        Check.filled(Watched.shotOf("v30,9,1;v30,1,9;s0,1;o99,99,1;h0,3,0;"), 0, 0, 0, 30, 0, NONE, NONE);
    }

    /** The last place but one is left for the hold: the first cavity has the melt of it, no other one has any. */
    static void terms2_holdTillThe99thPlace() {
        Watched none = Watched.shotOf(SIX_WIDE + "s0,9;s90,8;o98,99,40;" + NO_HOLD);
        Check.shot(none, 0, 11, 11, 0, 1);
        Check.has(none, 0, 2, 2, 24, 24, 23, 23);
        Watched one = Watched.shotOf(SIX_WIDE + "s0,9;s90,8;o98,99,40;h99,1,0;");
        Check.shot(one, 0, 11, 12, 0, 0);
        Check.has(one, 0, 3, 2, 24, 24, 23, 23);
        Watched more = Watched.shotOf(SIX_WIDE + "s0,9;s90,8;o98,99,40;h99,5,0;");
        Check.shot(more, 0, 11, 16, 0, 0);
        Check.has(more, 0, 3, 2, 24, 24, 23, 23);
        Check.same("the pressure of the hold all the same", more.curve(0, 16), 99);
    }

    static void terms2_holdAtThe99thPlaceGivesNone() {
        Watched m = Watched.shotOf(SIX_WIDE + "s0,9;o99,99,40;h99,3,0;");
        Check.shot(m, 0, 11, 14, 0, 0);
        int melt = 0;
        for (int c = 0; c < 6; c++) {
            melt += m.filled(0, c, 0);
        }
        Check.same("melt of the whole way", melt, 99);
    }

    static void terms2_holdCavity0First() {
        Watched two = Watched.shotOf(SIX_WIDE + "s0,9;s90,7;o97,99,40;h99,1,0;");
        Check.shot(two, 0, 11, 12, 0, 0);
        Check.has(two, 0, 3, 3);
        Watched passed = Watched.shotOf(SIX_WIDE + "s0,9;s90,8;o98,99,40;h18,1,0;");
        Check.has(passed, 0, 2, 2, 24, 24, 23, 23);
        Check.shot(passed, 0, 11, 12, 0, 1);
    }

    // ---- what a shot is then

    static void terms2_cushionFrom98To0() {
        shotOf("v3,1,1;s0,1;o1,99,40;" + NO_HOLD, 1, 1, 0, 98);
        shotOf("v3,1,9;s0,1;o1,99,40;h9,1,0;", 1, 2, 0, 97);
        shotOf(SIX_WIDE + "s0,9;o98,99,40;" + NO_HOLD, 11, 11, 0, 0);
    }

    static void terms2_shortAndOver() {
        for (int time = 1; time <= 5; time++) {
            Watched m = Watched.shotOf("v3,1,1;s0,1;o99,99," + time + ";" + NO_HOLD);
            Check.filled(m, 0, 0, time, Math.max(0, 3 - time), Math.max(0, time - 3), time < 3 ? NONE : 3, 1);
        }
    }

    private static void balanceOf(int due, String text) {
        Check.same("balance of " + text, Watched.shotOf(text).shot(0, 4), due);
    }

    static void terms2_balanceOfNoneOrOneIs0() {
        balanceOf(0, "v9,1,1;v9,1,1;s0,1;o99,99,5;" + NO_HOLD);
        balanceOf(0, "v2,1,1;v9,1,1;s0,1;o99,99,5;" + NO_HOLD);
        balanceOf(0, "v9,1,1;v2,1,1;s0,1;o99,99,5;" + NO_HOLD);
        balanceOf(0, "v2,1,1;s0,1;o99,99,9;" + NO_HOLD);
    }

    static void terms2_balanceOfTheLastLessTheFirst() {
        balanceOf(0, "v2,1,1;v2,1,1;s0,4;o99,99,1;" + NO_HOLD);
        balanceOf(1, "v2,1,1;v2,1,1;s0,3;o99,99,2;" + NO_HOLD);
        balanceOf(3, "v2,1,1;v3,1,1;v9,1,1;s0,1;o99,99,8;" + NO_HOLD);
        balanceOf(2, "v9,1,1;v3,1,1;v2,1,1;s0,1;o99,99,9;" + NO_HOLD);
        balanceOf(30, "v1,1,9;v30,1,9;s0,1;o99,99,40;" + NO_HOLD);
    }

    static void terms2_balanceInTheHoldToo() {
        Watched m = Watched.shotOf("v1,1,1;v4,1,9;s0,1;o99,99,3;h9,5,0;");
        Check.filled(m, 0, 0, 1, 0, 0, 1, 1);
        Check.filled(m, 0, 1, 7, 0, 3, 5, 2);
        Check.same("balance", m.shot(0, 4), 4);
    }

    static void terms2_longIsFillHoldAndCool() {
        String text = "v30,1,1;s0,1;o99,99,7;h1,%d,%d;";
        shotOf(String.format(text, 0, 0), 7, 7, 2, 92, 0, 7);
        shotOf(String.format(text, 20, 0), 7, 27, 2, 92, 0, 27);
        shotOf(String.format(text, 0, 99), 7, 7, 2, 92, 0, 106);
        shotOf(String.format(text, 20, 99), 7, 27, 2, 92, 0, 126);
    }

    static void terms2_theShotAtFirst() {
        Watched m = Ways.gone(Ways.FALLEN);
        Check.shot(m, 0, 10, 16, 1, 66, 2, 25, 72, NONE, 0);
        Check.curve(m, 0, 3, 4, 6, 8, 10, 15, 20, 24, 32, 72, 50, 50, 50, 50, 50, 50);
        Check.filled(m, 0, 0, 13, 0, 1, 8, 1);
        Check.filled(m, 0, 1, 12, 0, 0, 10, 1);
        Check.filled(m, 0, 2, 8, 0, 0, 9, 2);
    }
}
