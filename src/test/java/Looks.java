import java.util.LinkedHashMap;
import java.util.Map;

/** What an object answers to the calls that look at it. Telling things anew stands at the end, so it is of no use then. */
final class Looks {
    private static final int[] FASTER = {0, -3, 4};
    private static final int LAST_BAND_TICK = 20;
    private static final int LAST_CURVE_TICK = 10;

    private final Watched m;
    private final Map<String, Integer> row = new LinkedHashMap<>();

    private Looks(Watched m) {
        this.m = m;
    }

    static Map<String, Integer> all(Watched m) {
        Looks looks = new Looks(m);
        looks.counts();
        looks.cavitiesAndCores();
        looks.trials();
        looks.band();
        looks.shots();
        looks.toldAnew();
        return looks.row;
    }

    /** Without how many changes can be undone: that is not the same behind a change that was undone. */
    static Map<String, Integer> butUndoable(Watched m) {
        Map<String, Integer> row = all(m);
        row.remove("count(12)");
        return row;
    }

    private void counts() {
        for (int what = 0; what <= 14; what++) {
            row.put("count(" + what + ")", m.count(what));
        }
        row.put("fault()", m.fault());
    }

    private void cavitiesAndCores() {
        for (int c = 0; c < row.get("count(0)"); c++) {
            for (int what = 0; what < 3; what++) {
                row.put("cavity(" + c + ", " + what + ")", m.cavity(c, what));
            }
        }
        for (int c = 0; c < row.get("count(1)"); c++) {
            row.put("earlier(" + c + ")", m.earlier(c));
            row.put("order(" + c + ")", m.order(c));
            row.put("against(" + c + ", 0)", m.against(c, 0));
            row.put("against(" + c + ", 1)", m.against(c, 1));
        }
    }

    private void trials() {
        for (int by : FASTER) {
            for (int what = 0; what <= 6; what++) {
                row.put("tried(" + by + ", " + what + ")", m.tried(by, what));
            }
        }
        row.put("even(0)", m.even(0));
        row.put("even(1)", m.even(1));
    }

    private void band() {
        for (int tick = 1; tick <= LAST_BAND_TICK; tick++) {
            row.put("band(" + tick + ", 0)", m.band(tick, 0));
            row.put("band(" + tick + ", 1)", m.band(tick, 1));
        }
        row.put("band(60, 0)", m.band(60, 0));
    }

    /** The oldest and the two newest: there are not calls enough for all. */
    private void shots() {
        int kept = row.get("count(6)");
        for (int s = 0; s < kept; s++) {
            if (s == 0 || s >= kept - 2) {
                shot(s);
            }
        }
    }

    private void shot(int s) {
        for (int what = 0; what <= 8; what++) {
            row.put("shot(" + s + ", " + what + ")", m.shot(s, what));
        }
        for (int c = 0; c < row.get("count(0)"); c++) {
            for (int what = 0; what <= 4; what++) {
                row.put("filled(" + s + ", " + c + ", " + what + ")", m.filled(s, c, what));
            }
        }
        for (int tick = 1; tick <= LAST_CURVE_TICK; tick++) {
            row.put("curve(" + s + ", " + tick + ")", m.curve(s, tick));
        }
    }

    private void toldAnew() {
        for (int k = 0; k < row.get("count(2)"); k++) {
            row.put("speed(" + k + ", 7)", m.speed(k, 7));
        }
        for (int what = 0; what < 6; what++) {
            row.put("tell(" + what + ", 7)", m.tell(what, 7));
        }
    }
}
