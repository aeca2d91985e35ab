import java.util.function.Consumer;

/** Promises 1 to 5 and part 1 of the terms: a new object, write, wipe, fault, lay. */
final class ToldTest {
    private static final int BAD = MouldShots.BAD, NO = MouldShots.NO, FULL = MouldShots.FULL, NONE = MouldShots.NONE;
    private static final String LEAST = "v1,1,1;s0,1;";
    private static final String SIX = "v1,1,1;v2,1,1;v3,1,1;v4,1,1;v5,1,1;v6,1,1;";

    private ToldTest() { }

    // ---- promise 1: a new object

    static void promise1_theTextIsEmpty() {
        Watched m = new Watched();
        Check.same("count(13)", m.count(13), 0);
        Check.same("fault()", m.fault(), NONE);
        Check.same("lay()", m.lay(), NO);
        Check.same("wipe()", m.wipe(), 0);
        Check.same("write('v')", m.write('v'), 1);
    }

    static void promise1_isAsTheTextAtFirstIsLaid() {
        Watched told = Watched.laid(Ways.FIRST_TEXT);
        told.wipe();
        Check.alike("new", Looks.all(new Watched()), Looks.all(told));
    }

    static void promise1_whatIsLaidAtFirst() {
        Watched m = new Watched();
        int[][] cavities = {{12, 2, 6}, {12, 3, 5}, {8, 4, 4}};
        for (int c = 0; c < 3; c++) {
            for (int what = 0; what < 3; what++) {
                Check.same("cavity(" + c + ", " + what + ")", m.cavity(c, what), cavities[c][what]);
            }
        }
        int[] earlier = {1, NONE, 1};
        int[] speeds = {2, 5, 3};
        for (int i = 0; i < 3; i++) {
            Check.same("earlier(" + i + ")", m.earlier(i), earlier[i]);
            Check.same("speed(" + i + ", 9)", m.speed(i, 9), speeds[i]);
        }
        Check.settings(m, 36, 60, 20, 50, 6, 9);
    }

    static void promise1_openOutAndNothingMade() {
        Watched m = new Watched();
        Check.counts(m, 3, 3, 3, 0, 0, 0, 0, 0, 0, 2, 0, 0, 0, 0, 0);
        Check.same("waitCool()", m.waitCool(), NO);
        Check.same("undo()", m.undo(), NO);
        Check.same("forget()", m.forget(), NO);
        Check.same("shot(0, 0)", m.shot(0, 0), BAD);
        Check.same("band(1, 0)", m.band(1, 0), NONE);
        Check.same("wide(2), as it is", m.wide(2), NO);
    }

    static void promise1_objectsShareNothing() {
        Watched one = new Watched();
        Ways.TAUGHT_AND_HOT.accept(one);
        one.type(LEAST);
        Check.alike("new, another was used", Looks.all(new Watched()), Looks.all(Ways.gone(Ways.NEW)));
        Check.counts(new Watched(), 3, 3, 3, 0, 0, 0, 0, 0, 0, 2, 0, 0, 0, 0, 0);
    }

    static void promise1_answersTill512LettersAreAsked() {
        Watched m = new Watched();
        for (int call = 1; call <= 512; call++) {
            Check.same("write, call " + call, m.write('a'), call <= 200 ? call : FULL);
        }
    }

    static void promise1_answersTill512Changes() {
        Watched m = new Watched();
        int was = 2;
        for (int call = 1; call <= 508; call++) {
            int next = (was + 1) % 21;
            Check.same("wide, call " + call, m.wide(next), was);
            was = next;
        }
        for (int left = 3; left >= 0; left--) {
            Check.same("undo()", m.undo(), left);
        }
    }

    static void promise1_answersTillTheShotsOf512Calls() {
        Watched m = Watched.laid(LEAST + "o1,1,1;h0,0,0;");
        for (int made = 1; made <= 120; made++) {
            m.mould(1);
            Check.same("shoot()", m.shoot(), 1);
            m.waitCool();
            m.mould(0);
        }
        Check.same("kept", m.count(6), 12);
        Check.same("made", m.count(7), 120);
        Check.same("the newest", m.filled(11, 0, 0), 1);
    }

    static void promise1_answersTillItIsTaught480Times() {
        Watched m = Watched.shotOf(LEAST + "o1,1,1;");
        for (int times = 1; times <= 480; times++) {
            Check.same("teach(0)", m.teach(0), times);
        }
        Check.same("count(8)", m.count(8), 480);
        Check.same("forget()", m.forget(), 480);
    }

    // ---- promise 2: write

    static void promise2_takesTheLettersFrom32To126() {
        Watched m = new Watched();
        for (int letter = 32; letter <= 126; letter++) {
            Check.same("write(" + letter + ")", m.write(letter), letter - 31);
        }
        Check.same("count(13)", m.count(13), 95);
    }

    static void promise2_isBadWithAnyOther() {
        int[] wrong = {31, 127, 0, -1, 10, 128, 233, 255, 256 + 'v', 65536 + 'v', -'v', Integer.MAX_VALUE, Integer.MIN_VALUE};
        for (int letter : wrong) {
            Refused.call("write(" + letter + ")", Ways.HALF_A_TEXT, BAD, m -> m.write(letter));
        }
    }

    static void promise2_takesTheTwoHundredth() {
        Watched m = new Watched();
        for (int i = 1; i <= 200; i++) {
            Check.same("write", m.write('a'), i);
        }
        Check.same("count(13)", m.count(13), 200);
    }

    static void promise2_isFullWith200() {
        Refused.call("write('v')", Ways.FULL_TEXT, FULL, m -> m.write('v'));
        Refused.call("write(32)", Ways.FULL_TEXT, FULL, m -> m.write(32));
        Refused.call("write(126)", Ways.FULL_TEXT, FULL, m -> m.write(126));
    }

    static void promise2_badGoesAheadOfFull() {
        Refused.call("write(31)", Ways.FULL_TEXT, BAD, m -> m.write(31));
        Refused.call("write(127)", Ways.FULL_TEXT, BAD, m -> m.write(127));
    }

    static void promise2_comesBehindTheText() {
        Watched m = Watched.typed("v1,1,1");
        Check.same("fault() ahead of the ;", m.fault(), 0);
        Check.same("write(';')", m.write(';'), 7);
        Check.same("fault()", m.fault(), NONE);
        m.write('x');
        Check.same("fault() with an x", m.fault(), 7);
    }

    static void promise2_isNoChange() {
        Watched m = Ways.gone(Ways.TOLD_ANEW);
        m.write('v');
        Check.same("count(12)", m.count(12), 4);
        m.undo();
        Check.same("undo() takes no letter back", m.count(13), 1);
    }

    // ---- promise 3: wipe

    static void promise3_tellsHowLongItWas() {
        Watched m = new Watched();
        Check.same("wipe() of an empty one", m.wipe(), 0);
        m.write('a');
        Check.same("wipe() of one letter", m.wipe(), 1);
        Check.same("wipe() again", m.wipe(), 0);
        Ways.FULL_TEXT.accept(m);
        Check.same("wipe() of 200", m.wipe(), 200);
        Check.same("wipe() again", m.wipe(), 0);
    }

    static void promise3_emptiesTheText() {
        Watched m = Watched.typed("x" + LEAST);
        m.wipe();
        Check.same("count(13)", m.count(13), 0);
        Check.same("fault()", m.fault(), NONE);
        Check.same("lay()", m.lay(), NO);
        Check.same("write('v')", m.write('v'), 1);
        Check.same("fault() of the new one", m.fault(), 0);
    }

    static void promise3_makesRoomInAFullOne() {
        Watched m = Ways.gone(Ways.FULL_TEXT);
        m.wipe();
        for (int i = 1; i <= 200; i++) {
            Check.same("write", m.write('a'), i);
        }
        Check.same("write when full again", m.write('a'), FULL);
    }

    static void promise3_leavesWhatIsLaid() {
        Consumer<Watched> way = Ways.TAUGHT_AND_HOT;
        Watched wiped = Ways.gone(way.andThen(m -> m.type(LEAST)));
        wiped.wipe();
        Check.alike("wiped", Looks.all(wiped), Looks.all(Ways.gone(way)));
    }

    // ---- promise 4: fault

    private static void fine(String text) {
        Check.same("fault() of " + text, Watched.typed(text).fault(), NONE);
    }

    private static void faultAt(int due, String text) {
        Check.same("fault() of " + text, Watched.typed(text).fault(), due);
    }

    /** Wrong at first and wrong behind others. */
    private static void wrong(String item) {
        faultAt(0, item);
        faultAt(10, "h1,1,1;c9;" + item);
    }

    /** A number of an item, between what stands ahead of it and behind it: the least and the most that it can be. */
    private static void edges(String ahead, int least, int most, String behind) {
        fine(ahead + least + behind);
        fine(ahead + most + behind);
        if (least > 0) {
            wrong(ahead + (least - 1) + behind);
        }
        wrong(ahead + (most + 1) + behind);
        wrong(ahead + 100 + behind);
        wrong(ahead + "-" + least + behind);
        wrong(ahead + behind);
    }

    static void promise4_noneInAnEmptyOne() {
        fine("");
        Watched m = Watched.typed("x");
        m.wipe();
        Check.same("fault() of a wiped one", m.fault(), NONE);
    }

    static void promise4_volumeFrom1To30() {
        edges("v", 1, 30, ",1,1;");
    }

    static void promise4_dragFrom1To9() {
        edges("v1,", 1, 9, ",1;");
    }

    static void promise4_freezeFrom1To9() {
        edges("v1,1,", 1, 9, ";");
    }

    static void promise4_earlierFrom0To3Or9() {
        for (int e = 0; e <= 99; e++) {
            if (e <= 3 || e == 9) {
                fine("c" + e + ";");
                fine("c" + e / 10 + e % 10 + ";");
            } else {
                wrong("c" + e + ";");
            }
        }
        wrong("c100;");
        wrong("c;");
    }

    static void promise4_earlierMayBeToldLater() {
        fine("c3;");
        fine("c0;");
        fine("c1;c2;c3;c0;");
    }

    static void promise4_firstStageAt0() {
        fine("s0,1;");
        fine("s00,1;");
        wrong("s1,1;");
        wrong("s98,1;");
        wrong("s000,1;");
        wrong("s,1;");
    }

    static void promise4_nextStageAboveTheOneAhead() {
        fine("s0,1;s1,1;");
        faultAt(5, "s0,1;s0,1;");
        fine("s0,1;s50,1;s51,1;");
        faultAt(11, "s0,1;s50,1;s50,1;");
        faultAt(11, "s0,1;s50,1;s49,1;");
        faultAt(11, "s0,1;s50,1;s0,1;");
        fine("s0,1;v1,1,1;s2,1;c9;s3,1;");
        faultAt(20, "s0,1;v1,1,1;s2,1;c9;s2,1;");
    }

    static void promise4_stageAt98AtMost() {
        fine("s0,1;s98,1;");
        faultAt(5, "s0,1;s99,1;");
        faultAt(5, "s0,1;s100,1;");
        fine("s0,1;s97,1;s98,1;");
        faultAt(11, "s0,1;s98,1;s99,1;");
        faultAt(11, "s0,1;s98,1;s98,1;");
    }

    static void promise4_speedFrom1To9() {
        edges("s0,", 1, 9, ";");
        fine("s0,1;s1,9;");
        faultAt(5, "s0,1;s1,0;");
        faultAt(5, "s0,1;s1,10;");
    }

    static void promise4_switchPlaceFrom1To99() {
        edges("o", 1, 99, ",1,1;");
    }

    static void promise4_switchPressureFrom1To99() {
        edges("o1,", 1, 99, ",1;");
    }

    static void promise4_switchTimeFrom1To40() {
        edges("o1,1,", 1, 40, ";");
    }

    static void promise4_holdPressureFrom0To99() {
        edges("h", 0, 99, ",1,1;");
    }

    static void promise4_holdTicksFrom0To20() {
        edges("h1,", 0, 20, ",1;");
    }

    static void promise4_coolFrom0To99() {
        edges("h1,1,", 0, 99, ";");
    }

    static void promise4_numbersHaveOneOrTwoFigures() {
        String[] kinds = {"v%s,%s,%s;", "o%s,%s,%s;", "h%s,%s,%s;"};
        for (String kind : kinds) {
            fine(String.format(kind, "1", "1", "1"));
            fine(String.format(kind, "01", "01", "01"));
            for (String figures : new String[] {"", "001", "000", "0001"}) {
                wrong(String.format(kind, figures, "1", "1"));
                wrong(String.format(kind, "1", figures, "1"));
                wrong(String.format(kind, "1", "1", figures));
            }
        }
        fine("c09;");
        wrong("c009;");
        fine("s00,09;");
        wrong("s0,009;");
        wrong("v1000000001,1,1;");
        wrong("v4294967297,1,1;");
    }

    static void promise4_neitherOneNumberFewerNorOneMore() {
        for (char kind : "voh".toCharArray()) {
            fine(kind + "1,1,1;");
            wrong(kind + ";");
            wrong(kind + "1;");
            wrong(kind + "1,1;");
            wrong(kind + "1,1,1,1;");
            wrong(kind + "1,1,1,1,1;");
            wrong(kind + "1,1,1,;");
            wrong(kind + ",1,1,1;");
            wrong(kind + "1,,1,1;");
        }
        wrong("c1,1;");
        wrong("c1,;");
        wrong("c,1;");
        wrong("s0;");
        wrong("s0,;");
        wrong("s0,1,1;");
        wrong("s0,1,;");
    }

    /** In "h1,1,1;" one letter after the other is put in the place of each that stands there. */
    static void promise4_eachLetterInEachPlace() {
        String item = "h1,1,1;";
        String[] fits = {"hvo", "0123456789", ",", "0123456789", ",", "0123456789", ";"};
        for (int place = 0; place < item.length(); place++) {
            for (char letter = 32; letter <= 126; letter++) {
                String text = item.substring(0, place) + letter + item.substring(place + 1);
                if (fits[place].indexOf(letter) >= 0) {
                    fine(text);
                } else {
                    faultAt(0, text);
                }
            }
        }
    }

    static void promise4_noBlanksNorSigns() {
        String[] items = {"V1,1,1;", " v1,1,1;", "v 1,1,1;", "v1 ,1,1;", "v1,1,1 ;", "vv1,1,1;", "v+1,1,1;", "v-1,1,1;",
            "v1.1.1;", "v:,1,1;", "v/,1,1;", "1,1,1;", "x1,1,1;", ",;", " ;", "C9;", "S0,1;", "O1,1,1;", "H1,1,1;"};
        for (String item : items) {
            wrong(item);
        }
    }

    static void promise4_anEmptyItem() {
        faultAt(0, ";");
        faultAt(0, ";;");
        faultAt(7, "v1,1,1;;");
        faultAt(3, "c9;;v1,1,1;");
    }

    static void promise4_anItemWithoutItsEnd() {
        Watched m = new Watched();
        int start = 0;
        for (int i = 0; i < Ways.FIRST_TEXT.length(); i++) {
            m.write(Ways.FIRST_TEXT.charAt(i));
            if (Ways.FIRST_TEXT.charAt(i) == ';') {
                start = i + 1;
                Check.same("fault() behind letter " + i, m.fault(), NONE);
            } else {
                Check.same("fault() behind letter " + i, m.fault(), start);
            }
        }
    }

    static void promise4_theFirstOfSeveral() {
        faultAt(0, "x;y;z");
        faultAt(7, "v1,1,1;x;y;");
        faultAt(7, "v1,1,1;v0,1,1;s1,1;");
        faultAt(10, "v1,1,1;c9;s1,1;v0,1,1;");
    }

    static void promise4_sixCavitiesAreNotTooMany() {
        fine(SIX);
        faultAt(42, SIX + "v1,1,1;");
        faultAt(45, SIX + "c9;v1,1,1;c9;");
    }

    static void promise4_fourCoresAreNotTooMany() {
        fine("c9;c9;c9;c9;");
        faultAt(12, "c9;c9;c9;c9;c9;");
        faultAt(12, "c9;c9;c9;c9;c0;");
        faultAt(17, "c9;c9;c9;c9;s0,1;c9;");
    }

    static void promise4_fourStagesAreNotTooMany() {
        fine("s0,1;s1,1;s2,1;s3,1;");
        faultAt(20, "s0,1;s1,1;s2,1;s3,1;s4,1;");
        faultAt(23, "s0,1;s1,1;s2,1;s3,1;c9;s4,1;");
    }

    static void promise4_switchAndHoldMayBeToldOften() {
        fine("o1,1,1;o2,2,2;o3,3,3;h1,1,1;h2,2,2;o4,4,4;h3,3,3;");
        faultAt(7, "o1,1,1;o0,1,1;o1,1,1;");
        faultAt(7, "h1,1,1;h1,21,1;h1,1,1;");
    }

    static void promise4_inAFullText() {
        String items = "h11,1,1;" + "h1,1,1;".repeat(27);
        fine(items + "c9;");
        Watched m = Watched.typed(items + "c9;");
        Check.same("write over the full", m.write('x'), FULL);
        Check.same("fault()", m.fault(), NONE);
        faultAt(197, items + "c99");
        faultAt(197, items + "c8;");
        faultAt(199, "h1,1,1;".repeat(28) + "c9;;");
        faultAt(199, "h1,1,1;".repeat(28) + "c9;x");
        faultAt(0, "x".repeat(200));
        faultAt(0, ";".repeat(200));
    }

    static void promise4_isNoFaultWhatCanNotBeLaid() {
        fine("v1,1,1;");
        fine("s0,1;");
        fine(LEAST + "c0;");
        fine(LEAST + "c3;");
    }

    static void promise4_changesNothing() {
        for (String text : new String[] {SIX + "s0,1;c9;o1,1,1;h2,2,2;", "v1,1,1;x", ""}) {
            Watched asked = Ways.gone(Ways.TAUGHT_AND_HOT.andThen(m -> m.type(text)));
            int due = text.endsWith("x") ? 7 : NONE;
            for (int i = 0; i < 3; i++) {
                Check.same("fault() of " + text, asked.fault(), due);
            }
            Watched twin = Ways.gone(Ways.TAUGHT_AND_HOT.andThen(m -> m.type(text)));
            Check.alike("behind fault() of " + text, Looks.all(asked), Looks.all(twin));
        }
    }

    // ---- promise 5: lay

    private static void refusesToLay(String text) {
        Consumer<Watched> typed = m -> m.type(text);
        Refused.call("lay() of " + text, Ways.TAUGHT_AND_HOT.andThen(typed), NO, Watched::lay);
    }

    private static void lays(int cavities, String text) {
        Check.same("lay() of " + text, Watched.typed(text).lay(), cavities);
    }

    static void promise5_noWithoutACavity() {
        refusesToLay("");
        refusesToLay("s0,1;");
        refusesToLay("s0,1;c9;o1,1,1;h1,1,1;");
        lays(1, "s0,1;v1,1,1;");
    }

    static void promise5_noWithoutAStage() {
        refusesToLay("v1,1,1;");
        refusesToLay("v1,1,1;c9;o1,1,1;h1,1,1;");
        lays(1, "v1,1,1;s0,1;");
    }

    static void promise5_noWithAFault() {
        refusesToLay(LEAST + "x");
        refusesToLay("x;" + LEAST);
        refusesToLay("v1,1,1;s0,1");
        refusesToLay(LEAST + ";");
        refusesToLay(SIX + LEAST);
    }

    static void promise5_noWithAnEarlierOneThatIsNoCore() {
        refusesToLay(LEAST + "c1;");
        refusesToLay(LEAST + "c3;");
        refusesToLay(LEAST + "c9;c2;");
        refusesToLay(LEAST + "c9;c9;c3;");
        refusesToLay(LEAST + "c1;c9;c3;");
        lays(1, LEAST + "c1;c9;");
        lays(1, LEAST + "c9;c9;c0;");
        lays(1, LEAST + "c3;c9;c9;c9;");
    }

    static void promise5_noWithOneThatIsEarlierThanItself() {
        refusesToLay(LEAST + "c0;");
        refusesToLay(LEAST + "c9;c1;");
        refusesToLay(LEAST + "c9;c9;c9;c3;");
        refusesToLay(LEAST + "c1;c0;");
        refusesToLay(LEAST + "c1;c2;c0;");
        refusesToLay(LEAST + "c1;c2;c3;c0;");
        refusesToLay(LEAST + "c9;c2;c3;c1;");
        refusesToLay(LEAST + "c1;c2;c1;");
        refusesToLay(LEAST + "c2;c9;c3;c2;");
    }

    static void promise5_earlierOnesInAChainOrAsATree() {
        lays(1, LEAST + "c9;");
        lays(1, LEAST + "c1;c2;c3;c9;");
        lays(1, LEAST + "c9;c0;c1;c2;");
        lays(1, LEAST + "c3;c3;c3;c9;");
        lays(1, LEAST + "c9;c9;c9;c9;");
        lays(1, "c2;c9;c1;" + LEAST);
    }

    static void promise5_tellsHowManyCavities() {
        for (int n = 1; n <= 6; n++) {
            lays(n, "v1,1,1;".repeat(n) + "s0,1;");
            Check.same("count(0)", Watched.laid("v1,1,1;".repeat(n) + "s0,1;").count(0), n);
        }
    }

    static void promise5_startsAnewFromAnywhere() {
        String text = "v5,1,2;v6,3,4;c9;c0;s0,7;s9,4;";
        for (String name : Ways.all().keySet()) {
            Watched m = Ways.gone(Ways.all().get(name));
            m.layAnew(text);
            Check.alike(name + ", then laid", Looks.all(m), Looks.all(Watched.laid(text)));
        }
    }

    static void promise5_openOutNoShotsNothingTaughtWide2() {
        Watched m = Ways.gone(Ways.TAUGHT_AND_HOT);
        String text = "v5,1,2;v6,3,4;c9;c0;s0,7;s9,4;";
        m.layAnew(text);
        Check.counts(m, 2, 2, 2, 0, 0, 0, 0, 0, 0, 2, 0, 0, 0, text.length(), 0);
        Check.same("shot(0, 0)", m.shot(0, 0), BAD);
        Check.same("band(1, 0)", m.band(1, 0), NONE);
        Check.same("undo()", m.undo(), NO);
        Check.same("waitCool()", m.waitCool(), NO);
        Check.same("forget()", m.forget(), NO);
        Check.same("mould(0)", m.mould(0), NO);
        m.mould(1);
        Check.same("the first change behind it", m.count(12), 1);
        Check.same("shoot(), cores out", m.shoot(), NO);
    }

    static void promise5_switchAndHoldWithoutBeingTold() {
        Check.settings(Watched.laid(LEAST), 80, 90, 30, 40, 5, 8);
        Check.settings(Watched.laid(LEAST + "o7,8,9;"), 7, 8, 9, 40, 5, 8);
        Check.settings(Watched.laid(LEAST + "h7,8,9;"), 80, 90, 30, 7, 8, 9);
        Watched m = Watched.laid(LEAST + "o7,8,9;h7,8,9;");
        m.layAnew(LEAST);
        Check.settings(m, 80, 90, 30, 40, 5, 8);
    }

    static void promise5_theLastSwitchAndHoldCount() {
        Check.settings(Watched.laid("h1,2,3;o4,5,6;" + LEAST + "o7,8,9;h10,11,12;"), 7, 8, 9, 10, 11, 12);
        Check.settings(Watched.laid(LEAST + "o1,2,3;o4,5,6;o7,8,9;h9,8,7;h6,5,4;"), 7, 8, 9, 6, 5, 4);
        Check.settings(Watched.laid(LEAST + "o99,99,40;h99,20,99;"), 99, 99, 40, 99, 20, 99);
        Check.settings(Watched.laid(LEAST + "o1,1,1;h0,0,0;"), 1, 1, 1, 0, 0, 0);
    }

    static void promise5_theTextStays() {
        Watched m = Watched.laid(LEAST);
        Check.same("count(13)", m.count(13), LEAST.length());
        Check.same("fault()", m.fault(), NONE);
        m.drag(0, 9);
        m.wide(3);
        Check.same("lay() again", m.lay(), 1);
        Check.same("drag as told in the text", m.cavity(0, 1), 1);
        Check.same("wide", m.count(9), 2);
        m.type("v9,8,7;");
        Check.same("not laid so far", m.count(0), 1);
        Check.same("lay() of more", m.lay(), 2);
        Check.same("cavity(1, 0)", m.cavity(1, 0), 9);
    }

    static void promise5_aFullText() {
        String items = LEAST + "h1,1,1;".repeat(26);
        Watched full = Watched.laid(items + "c9;c0;");
        Check.same("count(13)", full.count(13), 200);
        Check.same("count(1)", full.count(1), 2);
        refusesToLay(items + "c9;c00;");
    }

    static void promise5_earlierOnesOfTheTextAheadAreGone() {
        Watched m = Watched.laid(LEAST + "c9;c0;c1;c2;");
        m.layAnew(LEAST + "c9;c9;");
        Check.same("count(1)", m.count(1), 2);
        Check.same("earlier(1)", m.earlier(1), NONE);
        Check.same("earlier(2)", m.earlier(2), BAD);
        m.layAnew(LEAST);
        Check.same("earlier(0)", m.earlier(0), BAD);
        Check.same("order(0)", m.order(0), NONE);
    }

    // ---- terms, part 1

    static void terms1_oneToSixCavities() {
        Watched one = Watched.laid(LEAST);
        Check.same("cavity(0, 0)", one.cavity(0, 0), 1);
        Check.same("cavity(1, 0)", one.cavity(1, 0), BAD);
        Watched six = Watched.laid(SIX + "s0,1;");
        for (int c = 0; c < 6; c++) {
            Check.same("cavity(" + c + ", 0)", six.cavity(c, 0), c + 1);
        }
        Check.same("cavity(6, 0)", six.cavity(6, 0), BAD);
    }

    static void terms1_edgesOfACavityAreKept() {
        Watched m = Watched.laid("v1,1,1;v30,9,9;s0,1;");
        for (int what = 0; what < 3; what++) {
            Check.same("cavity(0, " + what + ")", m.cavity(0, what), 1);
            Check.same("cavity(1, " + what + ")", m.cavity(1, what), what == 0 ? 30 : 9);
        }
    }

    static void terms1_oneToFourStages() {
        Watched four = Watched.laid("v1,1,1;s0,1;s1,9;s2,8;s98,6;");
        int[] speeds = {1, 9, 8, 6};
        for (int k = 0; k < 4; k++) {
            Check.same("speed(" + k + ", 7)", four.speed(k, 7), speeds[k]);
        }
        Check.same("speed(4, 7)", four.speed(4, 7), BAD);
        Watched one = Watched.laid(LEAST);
        Check.same("speed(0, 7)", one.speed(0, 7), 1);
        Check.same("speed(1, 7)", one.speed(1, 7), BAD);
    }

    static void terms1_noneToFourCores() {
        for (int n = 0; n <= 4; n++) {
            Watched m = Watched.laid(LEAST + "c9;".repeat(n));
            Check.same("count(1)", m.count(1), n);
            Check.same("earlier(n)", m.earlier(n), BAD);
            if (n > 0) {
                Check.same("earlier(n - 1)", m.earlier(n - 1), NONE);
            }
        }
    }
}
