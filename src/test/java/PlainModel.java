import java.util.ArrayList;
import java.util.Arrays;
import java.util.Collections;
import java.util.List;
import java.util.regex.Matcher;
import java.util.regex.Pattern;

/**
 * The document once more, as plainly as can be and with nothing shared with the class: every change keeps a whole copy,
 * items are read by patterns, the band is counted anew from the shots that taught it at each look.
 */
final class PlainModel {
    private static final int BAD = -1, NO = -2, FULL = -3, NONE = -4;

    private record Cavity(int v, int r, int k) { }

    private record Stage(int place, int speed) { }

    private record Made(int fill, List<Integer> curve, int why, int place, int cool, int[] has, int[] full, int[] first) {
        int ticks() {
            return curve.size();
        }

        int pressure(int tick) {
            return tick <= curve.size() ? curve.get(tick - 1) : 0;
        }

        int balance() {
            int[] when = Arrays.stream(full).filter(t -> t > 0).sorted().toArray();
            return when.length == 0 ? 0 : when[when.length - 1] - when[0];
        }
    }

    private static final class Things {
        List<Cavity> cavities = new ArrayList<>();
        List<Integer> cores = new ArrayList<>();
        List<Stage> stages = new ArrayList<>();
        int[] set = {80, 90, 30, 40, 5, 8};
        boolean shut;
        List<Integer> in = new ArrayList<>();
        Made inIt;
        boolean hot;
        List<Made> shots = new ArrayList<>();
        List<Made> teachers = new ArrayList<>();
        int wide = 2;

        Things copy() {
            Things t = new Things();
            t.cavities = new ArrayList<>(cavities);
            t.cores = new ArrayList<>(cores);
            t.stages = new ArrayList<>(stages);
            t.set = set.clone();
            t.shut = shut;
            t.in = new ArrayList<>(in);
            t.inIt = inIt;
            t.hot = hot;
            t.shots = new ArrayList<>(shots);
            t.teachers = new ArrayList<>(teachers);
            t.wide = wide;
            return t;
        }
    }

    private String text = "";
    private Things now;
    private List<Things> past = new ArrayList<>();

    PlainModel() {
        text = "v12,2,6;v12,3,5;v8,4,4;c1;c9;c1;s0,2;s10,5;s30,3;o36,60,20;h50,6,9;";
        lay();
        text = "";
    }

    int write(int letter) {
        if (letter < 32 || letter > 126) return BAD;
        if (text.length() == 200) return FULL;
        text += (char) letter;
        return text.length();
    }

    int wipe() {
        int was = text.length();
        text = "";
        return was;
    }

    private static final Pattern ITEM = Pattern.compile("([vcsoh])(\\d{1,2}(?:,\\d{1,2})*);");

    private int read(Things t) {
        int at = 0;
        Matcher m = ITEM.matcher(text);
        while (at < text.length()) {
            m.region(at, text.length());
            if (!m.lookingAt()) return at;
            int[] n = Arrays.stream(m.group(2).split(",")).mapToInt(Integer::parseInt).toArray();
            if (!takes(t, m.group(1), n)) return at;
            at = m.end();
        }
        return NONE;
    }

    private static boolean within(int x, int low, int high) {
        return low <= x && x <= high;
    }

    private static boolean takes(Things t, String kind, int[] n) {
        if (n.length != (kind.equals("c") ? 1 : kind.equals("s") ? 2 : 3)) return false;
        if (kind.equals("v")) {
            t.cavities.add(new Cavity(n[0], n[1], n[2]));
            return t.cavities.size() <= 6 && within(n[0], 1, 30) && within(n[1], 1, 9) && within(n[2], 1, 9);
        }
        if (kind.equals("c")) {
            t.cores.add(n[0]);
            return t.cores.size() <= 4 && (within(n[0], 0, 3) || n[0] == 9);
        }
        if (kind.equals("s")) {
            boolean placed = t.stages.isEmpty() ? n[0] == 0 : n[0] > t.stages.get(t.stages.size() - 1).place && n[0] <= 98;
            t.stages.add(new Stage(n[0], n[1]));
            return t.stages.size() <= 4 && placed && within(n[1], 1, 9);
        }
        if (kind.equals("o")) {
            System.arraycopy(n, 0, t.set, 0, 3);
            return within(n[0], 1, 99) && within(n[1], 1, 99) && within(n[2], 1, 40);
        }
        System.arraycopy(n, 0, t.set, 3, 3);
        return within(n[0], 0, 99) && within(n[1], 0, 20) && within(n[2], 0, 99);
    }

    int fault() {
        return read(new Things());
    }

    int lay() {
        Things t = new Things();
        if (read(t) != NONE || t.cavities.isEmpty() || t.stages.isEmpty()) return NO;
        for (int e : t.cores) {
            if (e != 9 && e >= t.cores.size()) return NO;
        }
        if (turns(t).size() < t.cores.size()) return NO;
        now = t;
        past.clear();
        return t.cavities.size();
    }

    private static List<Integer> turns(Things t) {
        List<Integer> in = new ArrayList<>();
        boolean more = true;
        while (more) {
            more = false;
            for (int c = 0; c < t.cores.size() && !more; c++) {
                if (!in.contains(c) && (t.cores.get(c) == 9 || in.contains(t.cores.get(c)))) {
                    in.add(c);
                    more = true;
                }
            }
        }
        return in;
    }

    private void changes() {
        past.add(now.copy());
        if (past.size() > 4) past.remove(0);
    }

    int mould(int is) {
        if (is != 0 && is != 1) return BAD;
        if (is == 1) {
            if (now.shut) return NO;
            changes();
            now.shut = true;
            return 0;
        }
        if (!now.shut || !now.in.isEmpty() || now.hot) return NO;
        changes();
        int falls = now.inIt == null ? 0 : 1;
        now.shut = false;
        now.inIt = null;
        return falls;
    }

    int against(int c, int is) {
        if (!within(c, 0, now.cores.size() - 1) || !within(is, 0, 1)) return BAD;
        if (now.in.contains(c) == (is == 1)) return 1;
        if (!now.shut) return 2;
        if (is == 1) {
            if (now.inIt != null) return 3;
            int e = now.cores.get(c);
            return e == 9 || now.in.contains(e) ? 0 : 4 + e;
        }
        if (now.hot) return 3;
        List<Integer> behind = new ArrayList<>();
        for (int o : now.in) {
            if (now.cores.get(o) == c) behind.add(o);
        }
        return behind.isEmpty() ? 0 : 4 + Collections.min(behind);
    }

    int core(int c, int is) {
        int a = against(c, is);
        if (a == BAD) return BAD;
        if (a != 0) return NO;
        changes();
        if (is == 1) now.in.add(c);
        else now.in.remove((Integer) c);
        return now.in.size();
    }

    int drag(int c, int r) {
        if (!within(c, 0, now.cavities.size() - 1) || !within(r, 1, 9)) return BAD;
        Cavity was = now.cavities.get(c);
        if (was.r == r) return NO;
        changes();
        now.cavities.set(c, new Cavity(was.v, r, was.k));
        return was.r;
    }

    int speed(int k, int s) {
        if (!within(k, 0, now.stages.size() - 1) || !within(s, 1, 9)) return BAD;
        Stage was = now.stages.get(k);
        if (was.speed == s) return NO;
        changes();
        now.stages.set(k, new Stage(was.place, s));
        return was.speed;
    }

    int tell(int what, int v) {
        boolean fits;
        if (what == 0 || what == 1) fits = within(v, 1, 99);
        else if (what == 2) fits = within(v, 1, 40);
        else if (what == 3 || what == 5) fits = within(v, 0, 99);
        else fits = what == 4 && within(v, 0, 20);
        if (!fits) return BAD;
        int was = now.set[what];
        if (was == v) return NO;
        changes();
        now.set[what] = v;
        return was;
    }

    private boolean isReady() {
        return now.shut && now.in.size() == now.cores.size();
    }

    int shoot() {
        if (!isReady() || now.inIt != null) return NO;
        changes();
        now.inIt = goes(0);
        now.hot = true;
        now.shots.add(now.inIt);
        return now.inIt.ticks() + now.inIt.cool;
    }

    int waitCool() {
        if (!now.hot) return NO;
        changes();
        now.hot = false;
        return now.inIt.cool;
    }

    int undo() {
        if (past.isEmpty()) return NO;
        now = past.remove(past.size() - 1);
        return past.size();
    }

    private Made goes(int by) {
        int n = now.cavities.size();
        int[] has = new int[n], full = new int[n], first = new int[n];
        List<Integer> curve = new ArrayList<>();
        int place = 0, tick = 0, why = -1;
        while (why < 0) {
            tick++;
            int speed = 0;
            for (Stage s : now.stages) {
                if (s.place <= place) speed = Math.min(9, Math.max(1, s.speed + by));
            }
            int pressure = 0;
            for (int step = 0; step < speed && place < 99; step++) {
                place++;
                int c = -1;
                int effort = Integer.MAX_VALUE;
                for (int i = n - 1; i >= 0; i--) {
                    int e = now.cavities.get(i).r * (has[i] + 1);
                    if (has[i] < now.cavities.get(i).v && e <= effort) {
                        c = i;
                        effort = e;
                    }
                }
                if (c < 0) {
                    for (int i = n - 1; i >= 0; i--) {
                        int e = now.cavities.get(i).r * has[i];
                        if (e <= effort) {
                            c = i;
                            effort = e;
                        }
                    }
                    effort *= 3;
                }
                pressure = Math.max(pressure, effort);
                melt(c, tick, has, full, first);
            }
            curve.add(Math.min(99, pressure));
            if (tick >= now.set[2]) why = 2;
            if (Math.min(99, pressure) >= now.set[1]) why = 1;
            if (place >= now.set[0]) why = 0;
        }
        int fill = tick;
        for (int held = 0; held < now.set[4]; held++) {
            tick++;
            for (int c = 0; c < n; c++) {
                Cavity cav = now.cavities.get(c);
                int goneBy = first[c] == 0 ? 0 : (tick - 1) - first[c] + 1;
                if (goneBy < cav.k && cav.r * has[c] < now.set[3] && place < 99) {
                    place++;
                    melt(c, tick, has, full, first);
                }
            }
            curve.add(now.set[3]);
        }
        return new Made(fill, curve, why, place, now.set[5], has, full, first);
    }

    private void melt(int c, int tick, int[] has, int[] full, int[] first) {
        has[c]++;
        if (has[c] == 1) first[c] = tick;
        if (has[c] == now.cavities.get(c).v) full[c] = tick;
    }

    private List<Made> kept() {
        return now.shots.subList(Math.max(0, now.shots.size() - 12), now.shots.size());
    }

    int teach(int s) {
        if (!within(s, 0, kept().size() - 1)) return BAD;
        Made m = kept().get(s);
        for (int c = 0; c < m.has.length; c++) {
            if (m.has[c] < now.cavities.get(c).v) return NO;
        }
        changes();
        now.teachers.add(m);
        return now.teachers.size();
    }

    int forget() {
        if (now.teachers.isEmpty()) return NO;
        changes();
        int was = now.teachers.size();
        now.teachers.clear();
        return was;
    }

    int wide(int w) {
        if (!within(w, 0, 20)) return BAD;
        if (w == now.wide) return NO;
        changes();
        int was = now.wide;
        now.wide = w;
        return was;
    }

    private int edge(int tick, boolean greatest) {
        int edge = greatest ? 0 : 99;
        for (Made t : now.teachers) {
            edge = greatest ? Math.max(edge, t.pressure(tick)) : Math.min(edge, t.pressure(tick));
        }
        return edge;
    }

    private int most() {
        return now.teachers.stream().mapToInt(Made::ticks).max().orElse(0);
    }

    int band(int tick, int what) {
        if (!within(tick, 1, 60) || !within(what, 0, 1)) return BAD;
        return tick > most() ? NONE : edge(tick, what == 1);
    }

    private int amiss(Made m) {
        int amiss = 0;
        for (int tick = 1; tick <= Math.max(m.ticks(), most()); tick++) {
            int p = m.pressure(tick);
            if (p < edge(tick, false) - now.wide || p > edge(tick, true) + now.wide) amiss++;
        }
        return amiss;
    }

    private boolean isBad(Made m) {
        for (int c = 0; c < m.has.length; c++) {
            int v = now.cavities.get(c).v;
            if (v - m.has[c] >= 2 || m.has[c] - v >= 2) return true;
        }
        if (now.teachers.isEmpty()) return false;
        int fewest = now.teachers.stream().mapToInt(Made::ticks).min().orElse(0);
        return amiss(m) > 1 || m.ticks() < fewest - 1 || m.ticks() > most() + 1;
    }

    private int told(Made m, int what) {
        return switch (what) {
            case 0 -> m.fill;
            case 1 -> m.ticks();
            case 2 -> m.why;
            case 3 -> 99 - m.place;
            case 4 -> m.balance();
            case 5 -> m.ticks() + m.cool;
            default -> Collections.max(m.curve);
        };
    }

    int shot(int s, int what) {
        if (!within(s, 0, kept().size() - 1) || !within(what, 0, 8)) return BAD;
        Made m = kept().get(s);
        if (what == 7) return now.teachers.isEmpty() ? NONE : amiss(m);
        if (what == 8) return isBad(m) ? 1 : 0;
        return told(m, what);
    }

    int curve(int s, int tick) {
        if (!within(s, 0, kept().size() - 1) || !within(tick, 1, 60)) return BAD;
        return tick > kept().get(s).ticks() ? NONE : kept().get(s).pressure(tick);
    }

    int cavity(int c, int what) {
        if (!within(c, 0, now.cavities.size() - 1) || !within(what, 0, 2)) return BAD;
        Cavity cav = now.cavities.get(c);
        return what == 0 ? cav.v : what == 1 ? cav.r : cav.k;
    }

    int filled(int s, int c, int what) {
        if (!within(s, 0, kept().size() - 1) || !within(c, 0, now.cavities.size() - 1) || !within(what, 0, 4)) return BAD;
        Made m = kept().get(s);
        int more = m.has[c] - now.cavities.get(c).v;
        if (what == 0) return m.has[c];
        if (what == 1) return more < 0 ? -more : 0;
        if (what == 2) return more > 0 ? more : 0;
        int tick = what == 3 ? m.full[c] : m.first[c];
        return tick == 0 ? NONE : tick;
    }

    int tried(int by, int what) {
        if (!within(by, -8, 8) || !within(what, 0, 6)) return BAD;
        return told(goes(by), what);
    }

    int even(int what) {
        if (!within(what, 0, 1)) return BAD;
        List<int[]> all = new ArrayList<>();
        for (int by = -8; by <= 8; by++) {
            all.add(new int[] {goes(by).balance(), Math.abs(by), by});
        }
        int[] best = Collections.min(all, Arrays::compare);
        return what == 0 ? best[2] + 8 : best[0];
    }

    int earlier(int c) {
        if (!within(c, 0, now.cores.size() - 1)) return BAD;
        return now.cores.get(c) == 9 ? NONE : now.cores.get(c);
    }

    int order(int k) {
        if (k < 0) return BAD;
        return k < now.cores.size() ? turns(now).get(k) : NONE;
    }

    int count(int what) {
        return switch (what) {
            case 0 -> now.cavities.size();
            case 1 -> now.cores.size();
            case 2 -> now.stages.size();
            case 3 -> now.shut ? 1 : 0;
            case 4 -> now.in.size();
            case 5 -> now.inIt == null ? 0 : 1;
            case 6 -> kept().size();
            case 7 -> now.shots.size();
            case 8 -> now.teachers.size();
            case 9 -> now.wide;
            case 10 -> (int) kept().stream().filter(this::isBad).count();
            case 11 -> isReady() ? 1 : 0;
            case 12 -> past.size();
            case 13 -> text.length();
            case 14 -> now.hot ? 1 : 0;
            default -> BAD;
        };
    }
}
