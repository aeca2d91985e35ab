/** Counts answers that are due and tells those that are not; and what many tests start with. */
final class Check {
    static int passed = 0;
    static int failed = 0;

    private Check() { }

    static void same(String what, long got, long due) {
        if (got == due) {
            passed++;
            return;
        }
        failed++;
        System.out.println("WRONG " + what + ": answered " + got + ", due is " + due);
    }

    static void yes(String what, boolean holds) {
        same(what, holds ? 1 : 0, 1);
    }

    static void type(MouldShots m, String text) {
        m.wipe();
        for (int i = 0; i < text.length(); i++) {
            same("write " + i + " of " + text, m.write(text.charAt(i)), i + 1);
        }
    }

    static MouldShots typed(String text) {
        MouldShots m = new MouldShots();
        type(m, text);
        return m;
    }

    static MouldShots laid(String text) {
        MouldShots m = typed(text);
        yes("lay " + text, m.lay() > 0);
        return m;
    }

    /** Shuts the mould, puts the cores in, in their order. */
    static void ready(MouldShots m) {
        m.mould(1);
        for (int k = 0; k < m.count(1); k++) {
            m.core(m.order(k), 1);
        }
        same("ready", m.count(11), 1);
    }

    /** Lets it cool, takes the cores out, opens the mould. */
    static void empty(MouldShots m) {
        m.waitCool();
        for (int k = m.count(1) - 1; k >= 0; k--) {
            m.core(m.order(k), 0);
        }
        same("falls out", m.mould(0), 1);
    }

    /** One whole shot, from the open mould to the open mould: its number. */
    static int cycle(MouldShots m) {
        ready(m);
        yes("shoot", m.shoot() > 0);
        empty(m);
        return m.count(6) - 1;
    }

    static void curve(MouldShots m, int s, int... due) {
        for (int i = 0; i < due.length; i++) {
            same("curve(" + s + ", " + (i + 1) + ")", m.curve(s, i + 1), due[i]);
        }
        if (due.length < 60) {
            same("curve behind its end", m.curve(s, due.length + 1), MouldShots.NONE);
        }
    }

    /** What filled() tells of one cavity, 0 to 4. */
    static void filled(MouldShots m, int s, int c, int... due) {
        for (int what = 0; what < due.length; what++) {
            same("filled(" + s + ", " + c + ", " + what + ")", m.filled(s, c, what), due[what]);
        }
    }

    /** What shot() tells, from 0 on. */
    static void shot(MouldShots m, int s, int... due) {
        for (int what = 0; what < due.length; what++) {
            same("shot(" + s + ", " + what + ")", m.shot(s, what), due[what]);
        }
    }
}
