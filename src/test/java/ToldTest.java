/** Promises 1 to 5: a new object, write, wipe, fault, lay. */
final class ToldTest {
    private static final int BAD = MouldShots.BAD, NO = MouldShots.NO, FULL = MouldShots.FULL, NONE = MouldShots.NONE;

    private ToldTest() { }

    static void run() {
        aNewObject();
        writeAndWipe();
        faultOfItems();
        faultOfTooMany();
        faultOfPlaces();
        layRefuses();
        layStartsAnew();
        laySettings();
    }

    private static void aNewObject() {
        MouldShots m = new MouldShots();
        int[] counts = {3, 3, 3, 0, 0, 0, 0, 0, 0, 2, 0, 0, 0, 0, 0};
        for (int what = 0; what < counts.length; what++) {
            Check.same("new count(" + what + ")", m.count(what), counts[what]);
        }
        int[][] cavities = {{12, 2, 6}, {12, 3, 5}, {8, 4, 4}};
        for (int c = 0; c < 3; c++) {
            for (int what = 0; what < 3; what++) {
                Check.same("new cavity", m.cavity(c, what), cavities[c][what]);
            }
        }
        int[] earlier = {1, NONE, 1};
        for (int c = 0; c < 3; c++) {
            Check.same("new earlier", m.earlier(c), earlier[c]);
        }
        int[] speeds = {2, 5, 3};
        for (int k = 0; k < 3; k++) {
            Check.same("new speed", m.speed(k, 9), speeds[k]);
        }
        int[] settings = {36, 60, 20, 50, 6, 9};
        for (int what = 0; what < 6; what++) {
            Check.same("new tell", m.tell(what, 12), settings[what]);
        }
        Check.same("new fault", new MouldShots().fault(), NONE);
        Check.same("new undo", new MouldShots().undo(), NO);
        Check.same("new lay", new MouldShots().lay(), NO);
    }

    private static void writeAndWipe() {
        MouldShots m = new MouldShots();
        int[] wrong = {31, 127, 0, -1, 10, 255, Integer.MAX_VALUE, Integer.MIN_VALUE};
        for (int letter : wrong) {
            Check.same("write " + letter, m.write(letter), BAD);
        }
        Check.same("write first letter", m.write(32), 1);
        Check.same("write last letter", m.write(126), 2);
        Check.same("count letters", m.count(13), 2);
        Check.same("wipe", m.wipe(), 2);
        Check.same("wipe again", m.wipe(), 0);
        Check.same("count letters", m.count(13), 0);
        for (int i = 1; i <= 200; i++) {
            Check.same("write to the full", m.write('a'), i);
        }
        Check.same("write over the full", m.write('a'), FULL);
        Check.same("write over the full, BAD goes first", m.write(31), BAD);
        Check.same("letters when full", m.count(13), 200);
        Check.same("wipe when full", m.wipe(), 200);
        Check.same("write behind wipe", m.write('a'), 1);
    }

    private static void fault(String text, int due) {
        Check.same("fault of " + text, Check.typed(text).fault(), due);
    }

    private static void faultOfItems() {
        String[] fine = {"", "v1,1,1;", "v30,9,9;", "v01,09,01;", "c0;", "c3;", "c9;", "c09;", "s0,1;", "s00,09;",
            "o1,1,1;", "o99,99,40;", "h0,0,0;", "h99,20,99;", "h1,1,1;h2,2,2;o1,1,1;o2,2,2;", "s0,1;s1,9;s98,1;"};
        for (String text : fine) {
            fault(text, NONE);
        }
        String[] wrong = {"v", ";", "v1,1,1", "v0,1,1;", "v31,1,1;", "v1,0,1;", "v1,10,1;", "v1,1,0;", "v1,1,10;",
            "v1,1;", "v1,1,1,1;", "v001,1,1;", "v1,,1;", "v,1,1;", "v1,1,;", "v;", "V1,1,1;", "v1 ,1,1;", " v1,1,1;",
            "vv1,1,1;", "v-1,1,1;", "v+1,1,1;", "v1.1.1;", "v1:1,1;", "v1/1,1;",
            "v:,1,1;", "v1/,1,1;", "v2,:,1;", "h?,1,1;", "c/9;", "s0,1/;",
            "c4;", "c8;", "c10;", "c;", "c1,1;", "c009;", "s1,1;", "s0,0;", "s0,10;", "s0;", "s0,1,1;",
            "o0,1,1;", "o100,1,1;", "o1,0,1;", "o1,1,0;", "o1,1,41;", "o1,1;", "o1,1,1,1;",
            "h100,1,1;", "h1,21,1;", "h1,1,100;", "h1,1;", "x1;", "1;", ",;", "a1,1,1;"};
        for (String text : wrong) {
            fault(text, 0);
            fault("h1,1,1;" + text, 7);
        }
        fault("v1,1,1;;", 7);
        fault("v1,1,1; ", 7);
        fault("v1,1,1;v1,1,1", 7);
        fault("v1,1,1;x;y;", 7);
    }

    private static void faultOfTooMany() {
        fault("v1,1,1;v1,1,1;v1,1,1;v1,1,1;v1,1,1;v1,1,1;", NONE);
        fault("v1,1,1;v1,1,1;v1,1,1;v1,1,1;v1,1,1;v1,1,1;c9;v1,1,1;", 45);
        fault("c9;c9;c9;c9;", NONE);
        fault("c9;c9;c9;c9;c9;", 12);
        fault("s0,1;s1,1;s2,1;s3,1;", NONE);
        fault("s0,1;s1,1;s2,1;s3,1;s4,1;", 20);
    }

    private static void faultOfPlaces() {
        fault("s0,1;s0,1;", 5);
        fault("s0,1;s5,1;s5,2;", 10);
        fault("s0,1;s5,1;s4,2;", 10);
        fault("s0,1;s98,1;", NONE);
        fault("s0,1;s99,1;", 5);
        fault("s0,1;v1,1,1;s3,1;", NONE);
    }

    private static void layRefuses() {
        String[] no = {"", "v1,1,1;", "s0,1;", "v1,1,1;s0,1", "v1,1,1;s0,1;x;", "v1,1,1;s0,1;c0;", "v1,1,1;s0,1;c1;",
            "v1,1,1;s0,1;c9;c2;", "v1,1,1;s0,1;c1;c0;", "v1,1,1;s0,1;c1;c2;c0;", "v1,1,1;s0,1;c9;c2;c3;c1;",
            "v1,1,1;s0,1;c1;c2;c3;c0;", "v1,1,1;s0,1;c9;c9;c3;", "v1,1,1;s0,1;c9;c1;"};
        for (String text : no) {
            MouldShots m = Check.typed(text);
            m.wide(7);
            m.mould(1);
            Check.same("lay " + text, m.lay(), NO);
            Check.same("cavities stay behind NO", m.count(0), 3);
            Check.same("volume stays behind NO", m.cavity(0, 0), 12);
            Check.same("stages stay behind NO", m.count(2), 3);
            Check.same("mould stays behind NO", m.count(3), 1);
            Check.same("wide stays behind NO", m.count(9), 7);
            Check.same("undo stays behind NO", m.count(12), 2);
            Check.same("text stays behind NO", m.count(13), text.length());
        }
        String[] yes = {"v1,1,1;s0,1;", "s0,1;v1,1,1;", "v1,1,1;s0,1;c9;", "v1,1,1;s0,1;c1;c2;c3;c9;",
            "c9;c0;c1;c2;v1,1,1;s0,1;", "v1,1,1;s0,1;c3;c3;c3;c9;"};
        for (String text : yes) {
            Check.same("lay " + text, Check.typed(text).lay(), 1);
        }
    }

    private static void layStartsAnew() {
        MouldShots m = new MouldShots();
        Check.cycle(m);
        m.teach(0);
        m.wide(9);
        Check.ready(m);
        m.shoot();
        String text = "v5,1,2;v6,3,4;c9;c0;s0,7;s9,4;";
        Check.type(m, text);
        Check.same("lay", m.lay(), 2);
        int[] counts = {2, 2, 2, 0, 0, 0, 0, 0, 0, 2, 0, 0, 0, text.length(), 0};
        for (int what = 0; what < counts.length; what++) {
            Check.same("laid count(" + what + ")", m.count(what), counts[what]);
        }
        Check.same("laid shot", m.shot(0, 0), BAD);
        Check.same("laid band", m.band(1, 0), NONE);
        Check.same("laid undo", m.undo(), NO);
        Check.same("laid waitCool", m.waitCool(), NO);
        Check.same("laid forget", m.forget(), NO);
        Check.same("laid cavity", m.cavity(1, 1), 3);
        Check.same("laid cavity", m.cavity(2, 0), BAD);
        Check.same("laid earlier", m.earlier(1), 0);
        Check.same("laid speed", m.speed(1, 5), 4);
        Check.same("lay again", m.lay(), 2);
        Check.same("speed as told again", m.speed(1, 5), 4);
        Check.same("wipe leaves what is laid", m.wipe(), text.length());
        Check.same("wipe leaves what is laid", m.cavity(0, 0), 5);
    }

    private static void laySettings() {
        String text = "v1,1,1;s0,1;";
        settings(Check.laid(text), 80, 90, 30, 40, 5, 8);
        settings(Check.laid(text + "o7,8,9;"), 7, 8, 9, 40, 5, 8);
        settings(Check.laid(text + "h7,8,9;"), 80, 90, 30, 7, 8, 9);
        settings(Check.laid("h1,2,3;o4,5,6;" + text + "o7,8,9;h10,11,12;"), 7, 8, 9, 10, 11, 12);
        MouldShots m = Check.laid(text + "o7,8,9;h7,8,9;");
        Check.type(m, text);
        m.lay();
        settings(m, 80, 90, 30, 40, 5, 8);
    }

    private static void settings(MouldShots m, int... due) {
        for (int what = 0; what < due.length; what++) {
            int other = due[what] == 1 ? 2 : 1;
            Check.same("setting " + what, m.tell(what, other), due[what]);
        }
    }
}
