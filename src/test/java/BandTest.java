/** Promises 15 to 18: teach, forget, wide, band; and what the band says of shots (promise 19, what 7 and 8). */
final class BandTest {
    private static final int BAD = MouldShots.BAD, NO = MouldShots.NO, NONE = MouldShots.NONE;
    private static final int TIME = 2, PRESSURE = 3, TICKS = 4;

    private BandTest() { }

    static void run() {
        teachRefuses();
        teachAndForget();
        bandOfTwo();
        bandStaysWhenShotsGo();
        wide();
        amissAtTheEdges();
        amissInTheFill();
        amissInTheLastTick();
        badByTwoAmiss();
        badByLength();
        badByFilling();
        countOfBad();
    }

    /** Its curve is 1, 2, 3 and five times 50: full at 3, frozen in the hold. */
    private static MouldShots plain() {
        return Check.laid("v3,1,1;s0,1;o99,99,3;h50,5,0;");
    }

    private static int shootWith(MouldShots m, int what, int v) {
        m.tell(what, v);
        return Check.cycle(m);
    }

    private static void teachRefuses() {
        MouldShots m = plain();
        Check.same("teach, no shot", m.teach(0), BAD);
        int s = shootWith(m, TIME, 2);
        Check.filled(m, s, 0, 2, 1, 0);
        Check.same("teach a short one", m.teach(s), NO);
        Check.same("teach -1", m.teach(-1), BAD);
        Check.same("teach most", m.teach(Integer.MAX_VALUE), BAD);
        Check.same("teach least", m.teach(Integer.MIN_VALUE), BAD);
        Check.same("teach the next", m.teach(1), BAD);
        Check.same("taught", m.count(8), 0);
        int over = shootWith(m, TIME, 9);
        Check.filled(m, over, 0, 9, 0, 6);
        Check.same("teach an overfull one", m.teach(over), 1);
    }

    private static void teachAndForget() {
        MouldShots m = plain();
        Check.same("forget, nothing taught", m.forget(), NO);
        Check.cycle(m);
        Check.same("amiss, nothing taught", m.shot(0, 7), NONE);
        Check.same("band, nothing taught", m.band(1, 0), NONE);
        Check.same("teach", m.teach(0), 1);
        Check.same("teach it again", m.teach(0), 2);
        Check.same("taught", m.count(8), 2);
        Check.same("forget", m.forget(), 2);
        Check.same("taught", m.count(8), 0);
        Check.same("forget again", m.forget(), NO);
        Check.same("band forgotten", m.band(1, 1), NONE);
        shootWith(m, PRESSURE, 70);
        Check.same("teach anew", m.teach(1), 1);
        Check.same("band anew", m.band(4, 0), 70);
        Check.same("band anew", m.band(4, 1), 70);
        MouldShots hot = plain();
        hot.mould(1);
        hot.shoot();
        Check.same("teach by a hot one", hot.teach(0), 1);
    }

    private static void bandOfTwo() {
        MouldShots m = plain();
        Check.cycle(m);
        m.drag(0, 4);
        m.tell(PRESSURE, 30);
        shootWith(m, TICKS, 7);
        Check.curve(m, 1, 4, 8, 12, 30, 30, 30, 30, 30, 30, 30);
        m.teach(0);
        int[] one = {1, 2, 3, 50, 50, 50, 50, 50};
        for (int tick = 1; tick <= 8; tick++) {
            Check.same("band of one", m.band(tick, 0), one[tick - 1]);
            Check.same("band of one", m.band(tick, 1), one[tick - 1]);
        }
        Check.same("no taught shot has it", m.band(9, 0), NONE);
        Check.same("no taught shot has it", m.band(60, 1), NONE);
        m.teach(1);
        int[] least = {1, 2, 3, 30, 30, 30, 30, 30, 0, 0};
        int[] greatest = {4, 8, 12, 50, 50, 50, 50, 50, 30, 30};
        for (int tick = 1; tick <= 10; tick++) {
            Check.same("band of two, least " + tick, m.band(tick, 0), least[tick - 1]);
            Check.same("band of two, greatest " + tick, m.band(tick, 1), greatest[tick - 1]);
        }
        Check.same("no taught shot has it", m.band(11, 0), NONE);
        int[][] wrong = {{0, 0}, {61, 0}, {-1, 1}, {1, 2}, {1, -1}, {Integer.MIN_VALUE, 0}, {Integer.MAX_VALUE, 0}};
        for (int[] w : wrong) {
            Check.same("band(" + w[0] + ", " + w[1] + ")", m.band(w[0], w[1]), BAD);
        }
        MouldShots other = plain();
        other.drag(0, 4);
        other.tell(PRESSURE, 30);
        shootWith(other, TICKS, 7);
        other.tell(PRESSURE, 50);
        other.drag(0, 1);
        shootWith(other, TICKS, 5);
        other.teach(0);
        other.teach(1);
        for (int tick = 1; tick <= 10; tick++) {
            Check.same("taught the other way round", other.band(tick, 0), least[tick - 1]);
            Check.same("taught the other way round", other.band(tick, 1), greatest[tick - 1]);
        }
    }

    private static void bandStaysWhenShotsGo() {
        MouldShots m = plain();
        Check.cycle(m);
        m.teach(0);
        m.tell(PRESSURE, 9);
        for (int i = 0; i < 13; i++) {
            Check.cycle(m);
        }
        Check.same("the taught one is gone", m.curve(0, 4), 9);
        Check.same("band stays", m.band(4, 0), 50);
        Check.same("amiss by what was taught", m.shot(0, 7), 5);
    }

    private static void wide() {
        MouldShots m = plain();
        int[] wrong = {-1, 21, Integer.MAX_VALUE, Integer.MIN_VALUE};
        for (int w : wrong) {
            Check.same("wide(" + w + ")", m.wide(w), BAD);
        }
        Check.same("wide as it is", m.wide(2), NO);
        Check.same("wide", m.wide(0), 2);
        Check.same("wide", m.wide(20), 0);
        Check.same("wide", m.count(9), 20);
    }

    private static void amissAtTheEdges() {
        MouldShots m = plain();
        Check.cycle(m);
        m.tell(PRESSURE, 60);
        Check.cycle(m);
        m.teach(0);
        m.teach(1);
        int[] pressures = {47, 48, 62, 63};
        int[] amiss = {5, 0, 0, 5};
        for (int i = 0; i < 4; i++) {
            int s = shootWith(m, PRESSURE, pressures[i]);
            Check.same("amiss with " + pressures[i], m.shot(s, 7), amiss[i]);
            Check.same("bad with " + pressures[i], m.shot(s, 8), amiss[i] == 0 ? 0 : 1);
        }
        m.wide(3);
        Check.same("wider", m.shot(2, 7), 0);
        Check.same("wider", m.shot(5, 7), 0);
        m.wide(0);
        Check.same("not wide", m.shot(3, 7), 5);
        Check.same("not wide", m.shot(4, 7), 5);
        Check.same("taught, not wide", m.shot(0, 7), 0);
    }

    private static void amissInTheFill() {
        MouldShots m = plain();
        Check.cycle(m);
        m.teach(0);
        int[] drags = {3, 4, 9};
        int[] amiss = {2, 3, 3};
        for (int i = 0; i < 3; i++) {
            m.drag(0, drags[i]);
            Check.same("amiss with drag " + drags[i], m.shot(Check.cycle(m), 7), amiss[i]);
        }
    }

    private static void amissInTheLastTick() {
        MouldShots m = Check.laid("v30,1,9;v30,1,9;s0,1;o99,99,40;h30,20,0;");
        Check.cycle(m);
        Check.same("the whole length", m.shot(0, 1), 60);
        Check.same("the last tick", m.curve(0, 60), 30);
        MouldShots full = Check.laid("v20,1,9;v20,1,9;s0,1;o99,99,40;h30,20,0;");
        Check.cycle(full);
        Check.same("teach", full.teach(0), 1);
        Check.same("band in the last tick", full.band(60, 0), 30);
        full.tell(4, 19);
        Check.cycle(full);
        Check.same("without the last tick", full.shot(1, 7), 1);
        full.tell(4, 18);
        Check.cycle(full);
        Check.same("without the last two", full.shot(2, 7), 2);
    }

    private static void badByTwoAmiss() {
        MouldShots m = plain();
        shootWith(m, TICKS, 1);
        m.teach(0);
        int one = shootWith(m, PRESSURE, 53);
        Check.same("amiss in one", m.shot(one, 7), 1);
        Check.same("one is let by", m.shot(one, 8), 0);
        int two = shootWith(m, TICKS, 2);
        Check.same("amiss in one and in one too many", m.shot(two, 7), 2);
        Check.same("two are not", m.shot(two, 8), 1);
        m.tell(PRESSURE, 50);
        int none = shootWith(m, TICKS, 0);
        Check.same("amiss in one that it has not", m.shot(none, 7), 1);
        Check.same("one is let by", m.shot(none, 8), 0);
    }

    /** With pressure 2 in the hold, within what is wide, the length alone tells. */
    private static void badByLength() {
        MouldShots m = plain();
        m.tell(PRESSURE, 2);
        Check.cycle(m);
        m.teach(0);
        int[] ticks = {3, 4, 6, 7};
        int[] bad = {1, 0, 0, 1};
        for (int i = 0; i < 4; i++) {
            int s = shootWith(m, TICKS, ticks[i]);
            Check.same("amiss with " + ticks[i], m.shot(s, 7), 0);
            Check.same("bad with " + ticks[i], m.shot(s, 8), bad[i]);
        }
        m.teach(4);
        Check.same("longer, taught", m.shot(4, 8), 0);
        int s = shootWith(m, TICKS, 8);
        Check.same("longer by one than the longest", m.shot(s, 8), 0);
        s = shootWith(m, TICKS, 9);
        Check.same("longer by two than the longest", m.shot(s, 8), 1);
        Check.same("shorter by two than the shortest", m.shot(1, 8), 1);
        m.teach(2);
        Check.same("shorter by one than the shortest", m.shot(1, 8), 0);
        m.forget();
        Check.same("nothing taught", m.shot(1, 8), 0);
        Check.same("nothing taught", m.shot(s, 8), 0);
    }

    private static void badByFilling() {
        MouldShots m = plain();
        int[] times = {1, 2, 3, 4, 5};
        int[] bad = {1, 0, 0, 0, 1};
        for (int i = 0; i < 5; i++) {
            int s = shootWith(m, TIME, times[i]);
            Check.filled(m, s, 0, times[i], Math.max(0, 3 - times[i]), Math.max(0, times[i] - 3));
            Check.same("bad with time " + times[i], m.shot(s, 8), bad[i]);
        }
        m.teach(4);
        Check.same("overfull, taught, not amiss", m.shot(4, 7), 0);
        Check.same("overfull, taught, bad all the same", m.shot(4, 8), 1);
        MouldShots two = Check.laid("v3,1,1;v9,9,1;s0,1;o99,99,3;h0,0,0;");
        Check.cycle(two);
        Check.filled(two, 0, 0, 3, 0, 0);
        Check.filled(two, 0, 1, 0, 9, 0);
        Check.same("the second is short", two.teach(0), NO);
        Check.same("the second is short by much", two.shot(0, 8), 1);
        MouldShots six = Check.laid("v1,1,1;v1,1,1;v1,1,1;v1,1,1;v1,1,1;v3,1,1;s0,1;o99,99,8;h0,0,0;");
        Check.cycle(six);
        Check.same("six that are full", six.teach(0), 1);
        Check.same("six that are full", six.shot(0, 8), 0);
        six.tell(TIME, 7);
        Check.cycle(six);
        Check.same("the sixth is short by one", six.teach(1), NO);
        six.tell(TIME, 6);
        Check.cycle(six);
        six.forget();
        Check.same("the sixth is short by one", six.shot(1, 8), 0);
        Check.same("the sixth is short by two", six.shot(2, 8), 1);
        Check.type(six, "v1,1,1;s0,1;o99,99,1;");
        six.lay();
        Check.cycle(six);
        Check.same("cavities of what was laid ahead are gone", six.shot(0, 8), 0);
        Check.same("cavities of what was laid ahead are gone", six.teach(0), 1);
        Check.type(six, "v1,1,1;s0,1;o99,99,1;h0,0,0;");
        six.lay();
        Check.cycle(six);
        Check.same("laid a third time", six.shot(0, 8), 0);
        Check.same("laid a third time", six.teach(0), 1);
    }

    private static void countOfBad() {
        MouldShots m = plain();
        Check.same("no shots", m.count(10), 0);
        shootWith(m, TIME, 1);
        Check.same("one bad", m.count(10), 1);
        shootWith(m, TIME, 3);
        shootWith(m, PRESSURE, 90);
        Check.same("one bad", m.count(10), 1);
        m.teach(1);
        Check.same("two bad by the band", m.count(10), 2);
        m.teach(2);
        Check.same("one bad by the wider band", m.count(10), 1);
        m.forget();
        m.teach(2);
        Check.same("two bad by the other band", m.count(10), 2);
        m.undo();
        m.undo();
        Check.same("one bad, undone", m.count(10), 1);
    }
}
