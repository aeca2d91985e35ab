/**
 * A MouldShots whose calls are counted: nothing is promised behind its 512th call, so a test that asks more of it fails.
 * Behind the calls stand the ways on which many tests set out.
 */
final class Watched {
    static final int CALLS = 512;

    private final MouldShots shots = new MouldShots();
    private int left = CALLS;

    private int counted(int answer) {
        left--;
        if (left == -1) {
            Check.yes("no more than 512 calls of one object", false);
        }
        return answer;
    }

    int left() {
        return left;
    }

    int write(int letter) {
        return counted(shots.write(letter));
    }

    int wipe() {
        return counted(shots.wipe());
    }

    int fault() {
        return counted(shots.fault());
    }

    int lay() {
        return counted(shots.lay());
    }

    int mould(int is) {
        return counted(shots.mould(is));
    }

    int core(int c, int is) {
        return counted(shots.core(c, is));
    }

    int against(int c, int is) {
        return counted(shots.against(c, is));
    }

    int drag(int c, int r) {
        return counted(shots.drag(c, r));
    }

    int speed(int k, int s) {
        return counted(shots.speed(k, s));
    }

    int tell(int what, int v) {
        return counted(shots.tell(what, v));
    }

    int shoot() {
        return counted(shots.shoot());
    }

    int waitCool() {
        return counted(shots.waitCool());
    }

    int undo() {
        return counted(shots.undo());
    }

    int teach(int s) {
        return counted(shots.teach(s));
    }

    int forget() {
        return counted(shots.forget());
    }

    int wide(int w) {
        return counted(shots.wide(w));
    }

    int band(int tick, int what) {
        return counted(shots.band(tick, what));
    }

    int shot(int s, int what) {
        return counted(shots.shot(s, what));
    }

    int curve(int s, int tick) {
        return counted(shots.curve(s, tick));
    }

    int cavity(int c, int what) {
        return counted(shots.cavity(c, what));
    }

    int filled(int s, int c, int what) {
        return counted(shots.filled(s, c, what));
    }

    int tried(int by, int what) {
        return counted(shots.tried(by, what));
    }

    int even(int what) {
        return counted(shots.even(what));
    }

    int earlier(int c) {
        return counted(shots.earlier(c));
    }

    int order(int k) {
        return counted(shots.order(k));
    }

    int count(int what) {
        return counted(shots.count(what));
    }

    // ---- ways

    static Watched typed(String text) {
        Watched m = new Watched();
        m.type(text);
        return m;
    }

    static Watched laid(String text) {
        Watched m = typed(text);
        Check.yes("lay " + text, m.lay() > 0);
        return m;
    }

    /** One shot made with what a text tells, and out of the mould again. */
    static Watched shotOf(String text) {
        Watched m = laid(text);
        m.cycle();
        return m;
    }

    void type(String text) {
        for (int i = 0; i < text.length(); i++) {
            write(text.charAt(i));
        }
    }

    void layAnew(String text) {
        wipe();
        type(text);
        Check.yes("lay " + text, lay() > 0);
    }

    /** Shuts the mould, puts the cores in, in their order. */
    void makeReady() {
        mould(1);
        int cores = count(1);
        for (int k = 0; k < cores; k++) {
            core(order(k), 1);
        }
    }

    void coresOut() {
        for (int k = count(1) - 1; k >= 0; k--) {
            core(order(k), 0);
        }
    }

    /** Lets it cool, takes the cores out, opens the mould. */
    void empty() {
        waitCool();
        coresOut();
        Check.same("falls out", mould(0), 1);
    }

    /** One whole shot, from the open mould to the open mould. */
    void cycle() {
        makeReady();
        Check.yes("a shot is made", shoot() > 0);
        empty();
    }

    /** The number of a shot that is made with one setting told anew. */
    int cycleWith(int what, int v) {
        tell(what, v);
        cycle();
        return count(6) - 1;
    }
}
