import java.util.Map;

/** Counts answers that are due and tells those that are not, with the test in which they stand. */
final class Check {
    static int passed = 0;
    static int failed = 0;
    static String test = "";

    private Check() { }

    static void same(String what, long got, long due) {
        if (got == due) {
            passed++;
            return;
        }
        failed++;
        System.out.println("WRONG " + test + ": " + what + " answered " + got + ", due is " + due);
    }

    static void yes(String what, boolean holds) {
        same(what, holds ? 1 : 0, 1);
    }

    /** Two rows of looks. */
    static void alike(String what, Map<String, Integer> got, Map<String, Integer> due) {
        yes(what + ": as many looks", got.keySet().equals(due.keySet()));
        for (Map.Entry<String, Integer> look : due.entrySet()) {
            same(what + ": " + look.getKey(), got.getOrDefault(look.getKey(), Integer.MIN_VALUE), look.getValue());
        }
    }

    /** The curve of a shot, and that it has not one tick more. */
    static void curve(Watched m, int s, int... due) {
        for (int i = 0; i < due.length; i++) {
            same("curve(" + s + ", " + (i + 1) + ")", m.curve(s, i + 1), due[i]);
        }
        int behind = due.length < 60 ? MouldShots.NONE : MouldShots.BAD;
        same("curve(" + s + ", " + (due.length + 1) + ")", m.curve(s, due.length + 1), behind);
    }

    /** What filled() tells of one cavity, from 0 on. */
    static void filled(Watched m, int s, int c, int... due) {
        for (int what = 0; what < due.length; what++) {
            same("filled(" + s + ", " + c + ", " + what + ")", m.filled(s, c, what), due[what]);
        }
    }

    /** What the cavities of a shot have. */
    static void has(Watched m, int s, int... due) {
        for (int c = 0; c < due.length; c++) {
            same("filled(" + s + ", " + c + ", 0)", m.filled(s, c, 0), due[c]);
        }
    }

    /** What shot() tells, from 0 on. */
    static void shot(Watched m, int s, int... due) {
        for (int what = 0; what < due.length; what++) {
            same("shot(" + s + ", " + what + ")", m.shot(s, what), due[what]);
        }
    }

    /** What count() tells, from 0 on. */
    static void counts(Watched m, int... due) {
        for (int what = 0; what < due.length; what++) {
            same("count(" + what + ")", m.count(what), due[what]);
        }
    }

    /** What is told of SWITCH, HOLD and COOL: tell() answers it when it is told anew. */
    static void settings(Watched m, int... due) {
        for (int what = 0; what < due.length; what++) {
            same("tell(" + what + ")", m.tell(what, due[what] == 1 ? 2 : 1), due[what]);
        }
    }
}
