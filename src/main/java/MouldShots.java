/**
 * Moulds filled by pressure: cavities, cores and a screw as a text tells them, the shots that are made
 * with them, the band that good shots teach, and the last changes undone.
 *
 * All rows are made in the constructor and used again: no call makes an object.
 */
public final class MouldShots {
    public static final int BAD = -1, NO = -2, FULL = -3, NONE = -4;

    private static final String FIRST_TEXT =
            "v12,2,6;v12,3,5;v8,4,4;c1;c9;c1;s0,2;s10,5;s30,3;o36,60,20;h50,6,9;";

    private static final int MOST_LETTERS = 200;
    private static final int FIRST_LETTER = 32;
    private static final int LAST_LETTER = 126;
    private static final int MOST_FIGURES = 2;
    private static final int MOST_NUMBERS = 3;

    private static final int MOST_CAVITIES = 6;
    private static final int MOST_VOLUME = 30;
    private static final int MOST_DRAG = 9;
    private static final int MOST_FREEZE = 9;
    private static final int MOST_CORES = 4;
    private static final int NO_CORE = 9;
    private static final int MOST_STAGES = 4;
    private static final int LAST_STAGE_PLACE = 98;
    private static final int MOST_SPEED = 9;
    private static final int MOST_FASTER = 8;

    private static final int FARTHEST = 99;
    private static final int MOST_PRESSURE = 99;
    private static final int MOST_FILL = 40;
    private static final int MOST_TICKS = 60;
    private static final int FULL_TIMES = 3;

    private static final int FIRST_WIDE = 2;
    private static final int MOST_WIDE = 20;
    private static final int LEAST_WRONG = 2;
    private static final int AMISS_LET_BY = 1;
    private static final int TICKS_LET_BY = 1;

    private static final int KEPT_SHOTS = 12;
    private static final int MOST_UNDONE = 4;
    private static final int STATES = MOST_UNDONE + 1;
    /** Rows for the shots that are kept and for those that come back when changes are undone. */
    private static final int SHOT_ROWS = KEPT_SHOTS + MOST_UNDONE;

    /** What tell() numbers. */
    private static final int SWITCH_PLACE = 0;
    private static final int SWITCH_PRESSURE = 1;
    private static final int SWITCH_TIME = 2;
    private static final int HOLD_PRESSURE = 3;
    private static final int HOLD_TICKS = 4;
    private static final int COOL_TICKS = 5;
    private static final int SETTINGS = 6;
    private static final int[] LEAST_SETTING = {1, 1, 1, 0, 0, 0};
    private static final int[] MOST_SETTING = {99, 99, 40, 99, 20, 99};
    private static final int[] SETTING_WITHOUT = {80, 90, 30, 40, 5, 8};

    /** What against() answers. */
    private static final int NOTHING = 0;
    private static final int IT_IS_SO = 1;
    private static final int MOULD_IS_OPEN = 2;
    private static final int SHOT_IS_IN = 3;
    private static final int CORE_FIRST = 4;

    private final Text text = new Text();
    private Plan plan = new Plan();
    private Plan draft = new Plan();
    private final State[] states = new State[STATES];
    private int at = 0;
    private int undoable = 0;
    private State now = new State();
    private final Shot[] shots = new Shot[SHOT_ROWS];
    private final Shot trial = new Shot();

    public MouldShots() {
        states[0] = now;
        for (int i = 1; i < STATES; i++) {
            states[i] = new State();
        }
        for (int i = 0; i < SHOT_ROWS; i++) {
            shots[i] = new Shot();
        }
        for (int i = 0; i < FIRST_TEXT.length(); i++) {
            text.append(FIRST_TEXT.charAt(i));
        }
        text.readInto(draft);
        takeDraft();
        text.clear();
    }

    // ---- told

    public int write(int letter) {
        if (letter < FIRST_LETTER || letter > LAST_LETTER) {
            return BAD;
        }
        return text.append(letter) ? text.length : FULL;
    }

    public int wipe() {
        int was = text.length;
        text.clear();
        return was;
    }

    public int fault() {
        return text.readInto(draft);
    }

    public int lay() {
        if (text.readInto(draft) != NONE || !draft.canBeLaid()) {
            return NO;
        }
        takeDraft();
        return plan.cavities;
    }

    private void takeDraft() {
        Plan laid = draft;
        draft = plan;
        plan = laid;
        now.startWith(plan);
        undoable = 0;
    }

    // ---- motions

    public int mould(int is) {
        if (!isFlag(is)) {
            return BAD;
        }
        return is == 1 ? shutMould() : openMould();
    }

    private int shutMould() {
        if (now.shut) {
            return NO;
        }
        startChange();
        now.shut = true;
        return 0;
    }

    private int openMould() {
        if (!now.shut || now.coresIn != 0 || now.hot) {
            return NO;
        }
        int fallen = now.loaded ? 1 : 0;
        startChange();
        now.shut = false;
        now.loaded = false;
        return fallen;
    }

    public int core(int c, int is) {
        if (!isCore(c) || !isFlag(is)) {
            return BAD;
        }
        if (barrier(c, is) != NOTHING) {
            return NO;
        }
        startChange();
        now.coresIn ^= 1 << c;
        return Integer.bitCount(now.coresIn);
    }

    public int against(int c, int is) {
        if (!isCore(c) || !isFlag(is)) {
            return BAD;
        }
        return barrier(c, is);
    }

    private int barrier(int c, int is) {
        boolean in = is == 1;
        if (now.isIn(c) == in) {
            return IT_IS_SO;
        }
        if (!now.shut) {
            return MOULD_IS_OPEN;
        }
        if (in ? now.loaded : now.hot) {
            return SHOT_IS_IN;
        }
        int first = in ? outAheadOf(c) : inBehind(c);
        return first == NO_CORE ? NOTHING : CORE_FIRST + first;
    }

    /** The core that has to go in ahead of a core, or NO_CORE. */
    private int outAheadOf(int c) {
        int ahead = plan.ahead[c];
        return isCore(ahead) && !now.isIn(ahead) ? ahead : NO_CORE;
    }

    /** The lowest core that has to go out ahead of a core, or NO_CORE. */
    private int inBehind(int c) {
        for (int other = 0; other < plan.cores; other++) {
            if (plan.ahead[other] == c && now.isIn(other)) {
                return other;
            }
        }
        return NO_CORE;
    }

    public int drag(int c, int r) {
        if (!isCavity(c) || r < 1 || r > MOST_DRAG) {
            return BAD;
        }
        int was = now.drags[c];
        if (was == r) {
            return NO;
        }
        startChange();
        now.drags[c] = r;
        return was;
    }

    public int speed(int k, int s) {
        if (k < 0 || k >= plan.stages || s < 1 || s > MOST_SPEED) {
            return BAD;
        }
        int was = now.speeds[k];
        if (was == s) {
            return NO;
        }
        startChange();
        now.speeds[k] = s;
        return was;
    }

    public int tell(int what, int v) {
        if (what < 0 || what >= SETTINGS || v < LEAST_SETTING[what] || v > MOST_SETTING[what]) {
            return BAD;
        }
        int was = now.settings[what];
        if (was == v) {
            return NO;
        }
        startChange();
        now.settings[what] = v;
        return was;
    }

    public int shoot() {
        if (!isReady() || now.loaded) {
            return NO;
        }
        startChange();
        Shot made = shots[now.made % SHOT_ROWS];
        made.make(plan, now, 0);
        now.made++;
        now.loaded = true;
        now.hot = true;
        return made.whole();
    }

    public int waitCool() {
        if (!now.hot) {
            return NO;
        }
        startChange();
        now.hot = false;
        return keptShot(keptShots() - 1).coolTicks;
    }

    public int undo() {
        if (undoable == 0) {
            return NO;
        }
        undoable--;
        at = (at + STATES - 1) % STATES;
        now = states[at];
        return undoable;
    }

    /** What is now stays as it is for undo(); what follows is done to a copy of it. */
    private void startChange() {
        at = (at + 1) % STATES;
        states[at].copyFrom(now);
        now = states[at];
        undoable = Math.min(undoable + 1, MOST_UNDONE);
    }

    // ---- the band

    public int teach(int s) {
        if (!isShot(s)) {
            return BAD;
        }
        Shot good = keptShot(s);
        if (good.isShort(plan)) {
            return NO;
        }
        startChange();
        now.taught.learn(good);
        return now.taught.teachers;
    }

    public int forget() {
        int was = now.taught.teachers;
        if (was == 0) {
            return NO;
        }
        startChange();
        now.taught.clear();
        return was;
    }

    public int wide(int w) {
        if (w < 0 || w > MOST_WIDE) {
            return BAD;
        }
        int was = now.width;
        if (was == w) {
            return NO;
        }
        startChange();
        now.width = w;
        return was;
    }

    public int band(int tick, int what) {
        if (!isTick(tick) || !isFlag(what)) {
            return BAD;
        }
        if (tick > now.taught.longest) {
            return NONE;
        }
        return what == 0 ? now.taught.least[tick - 1] : now.taught.greatest[tick - 1];
    }

    // ---- shots

    public int shot(int s, int what) {
        if (!isShot(s) || what < 0 || what > 8) {
            return BAD;
        }
        Shot seen = keptShot(s);
        if (what == 7) {
            return now.taught.teachers == 0 ? NONE : now.taught.amissIn(seen, now.width);
        }
        if (what == 8) {
            return isBad(seen) ? 1 : 0;
        }
        return seen.told(what);
    }

    private boolean isBad(Shot seen) {
        return seen.isFarOff(plan) || now.taught.rejects(seen, now.width);
    }

    public int curve(int s, int tick) {
        if (!isShot(s) || !isTick(tick)) {
            return BAD;
        }
        Shot seen = keptShot(s);
        return tick > seen.ticks ? NONE : seen.pressures[tick - 1];
    }

    public int cavity(int c, int what) {
        if (!isCavity(c)) {
            return BAD;
        }
        switch (what) {
            case 0: return plan.volumes[c];
            case 1: return now.drags[c];
            case 2: return plan.freezes[c];
            default: return BAD;
        }
    }

    public int filled(int s, int c, int what) {
        if (!isShot(s) || !isCavity(c)) {
            return BAD;
        }
        Shot seen = keptShot(s);
        int has = seen.has[c];
        int volume = plan.volumes[c];
        switch (what) {
            case 0: return has;
            case 1: return Math.max(0, volume - has);
            case 2: return Math.max(0, has - volume);
            case 3: return seen.fullAt[c] == 0 ? NONE : seen.fullAt[c];
            case 4: return seen.firstAt[c] == 0 ? NONE : seen.firstAt[c];
            default: return BAD;
        }
    }

    public int tried(int by, int what) {
        if (by < -MOST_FASTER || by > MOST_FASTER || what < 0 || what > 6) {
            return BAD;
        }
        trial.make(plan, now, by);
        return trial.told(what);
    }

    public int even(int what) {
        if (!isFlag(what)) {
            return BAD;
        }
        int best = 0;
        int least = balanceWith(0);
        for (int far = 1; far <= MOST_FASTER; far++) {
            int slower = balanceWith(-far);
            if (slower < least) {
                best = -far;
                least = slower;
            }
            int faster = balanceWith(far);
            if (faster < least) {
                best = far;
                least = faster;
            }
        }
        return what == 0 ? best + MOST_FASTER : least;
    }

    private int balanceWith(int by) {
        trial.make(plan, now, by);
        return trial.balance();
    }

    // ---- looked at

    public int earlier(int c) {
        if (!isCore(c)) {
            return BAD;
        }
        return plan.ahead[c] == NO_CORE ? NONE : plan.ahead[c];
    }

    public int order(int k) {
        if (k < 0) {
            return BAD;
        }
        return k >= plan.cores ? NONE : plan.coreInTurn(k);
    }

    public int count(int what) {
        switch (what) {
            case 0: return plan.cavities;
            case 1: return plan.cores;
            case 2: return plan.stages;
            case 3: return now.shut ? 1 : 0;
            case 4: return Integer.bitCount(now.coresIn);
            case 5: return now.loaded ? 1 : 0;
            case 6: return keptShots();
            case 7: return now.made;
            case 8: return now.taught.teachers;
            case 9: return now.width;
            case 10: return badShots();
            case 11: return isReady() ? 1 : 0;
            case 12: return undoable;
            case 13: return text.length;
            case 14: return now.hot ? 1 : 0;
            default: return BAD;
        }
    }

    private int badShots() {
        int bad = 0;
        for (int s = 0; s < keptShots(); s++) {
            if (isBad(keptShot(s))) {
                bad++;
            }
        }
        return bad;
    }

    private boolean isReady() {
        return now.shut && Integer.bitCount(now.coresIn) == plan.cores;
    }

    private int keptShots() {
        return Math.min(now.made, KEPT_SHOTS);
    }

    /** The shot s, 0 the oldest that is kept; the rows are used in turn. */
    private Shot keptShot(int s) {
        return shots[Math.floorMod(now.made - keptShots() + s, SHOT_ROWS)];
    }

    private boolean isCavity(int c) {
        return c >= 0 && c < plan.cavities;
    }

    private boolean isCore(int c) {
        return c >= 0 && c < plan.cores;
    }

    private boolean isShot(int s) {
        return s >= 0 && s < keptShots();
    }

    private static boolean isTick(int tick) {
        return tick >= 1 && tick <= MOST_TICKS;
    }

    private static boolean isFlag(int is) {
        return is == 0 || is == 1;
    }

    /** The letters of THE TEXT, and how its items are read. */
    private static final class Text {
        private final int[] letters = new int[MOST_LETTERS];
        private final int[] numbers = new int[MOST_NUMBERS];
        private int length = 0;

        private void clear() {
            length = 0;
        }

        /** False, and nothing done, if there is no room for the letter. */
        private boolean append(int letter) {
            if (length >= MOST_LETTERS) {
                return false;
            }
            letters[length] = letter;
            length++;
            return true;
        }

        /** Puts what the items tell into a plan: the place of the first that is not so, or NONE. */
        private int readInto(Plan told) {
            told.clear();
            int start = 0;
            for (int i = 0; i < length; i++) {
                if (letters[i] == ';') {
                    if (!readItem(start, i, told)) {
                        return start;
                    }
                    start = i + 1;
                }
            }
            return start < length ? start : NONE;
        }

        private boolean readItem(int start, int end, Plan told) {
            int found = readNumbers(start + 1, end);
            switch (letters[start]) {
                case 'v': return found == 3 && told.addCavity(numbers[0], numbers[1], numbers[2]);
                case 'c': return found == 1 && told.addCore(numbers[0]);
                case 's': return found == 2 && told.addStage(numbers[0], numbers[1]);
                case 'o': return found == 3 && told.setThree(SWITCH_PLACE, numbers);
                case 'h': return found == 3 && told.setThree(HOLD_PRESSURE, numbers);
                default: return false;
            }
        }

        /** How many numbers stand there with a comma between each two; 0 if something else does. */
        private int readNumbers(int from, int end) {
            int found = 0;
            int figures = 0;
            int value = 0;
            for (int i = from; i <= end; i++) {
                int letter = i < end ? letters[i] : ',';
                if (letter == ',') {
                    if (figures == 0 || found >= MOST_NUMBERS) {
                        return 0;
                    }
                    numbers[found] = value;
                    found++;
                    figures = 0;
                    value = 0;
                } else {
                    if (letter < '0' || letter > '9' || figures >= MOST_FIGURES) {
                        return 0;
                    }
                    value = 10 * value + letter - '0';
                    figures++;
                }
            }
            return found;
        }
    }

    /** What a text tells. */
    private static final class Plan {
        private int cavities = 0;
        private final int[] volumes = new int[MOST_CAVITIES];
        private final int[] drags = new int[MOST_CAVITIES];
        private final int[] freezes = new int[MOST_CAVITIES];
        private int cores = 0;
        private final int[] ahead = new int[MOST_CORES];
        private int stages = 0;
        private final int[] places = new int[MOST_STAGES];
        private final int[] speeds = new int[MOST_STAGES];
        private final int[] settings = new int[SETTINGS];

        private void clear() {
            cavities = 0;
            cores = 0;
            stages = 0;
            System.arraycopy(SETTING_WITHOUT, 0, settings, 0, SETTINGS);
        }

        private boolean addCavity(int volume, int drag, int freeze) {
            if (cavities >= MOST_CAVITIES || volume < 1 || volume > MOST_VOLUME
                    || drag < 1 || drag > MOST_DRAG || freeze < 1 || freeze > MOST_FREEZE) {
                return false;
            }
            volumes[cavities] = volume;
            drags[cavities] = drag;
            freezes[cavities] = freeze;
            cavities++;
            return true;
        }

        private boolean addCore(int other) {
            if (cores >= MOST_CORES || other >= MOST_CORES && other != NO_CORE) {
                return false;
            }
            ahead[cores] = other;
            cores++;
            return true;
        }

        private boolean addStage(int place, int speed) {
            if (stages >= MOST_STAGES || speed < 1 || speed > MOST_SPEED) {
                return false;
            }
            boolean inPlace = stages == 0
                    ? place == 0
                    : place > places[stages - 1] && place <= LAST_STAGE_PLACE;
            if (!inPlace) {
                return false;
            }
            places[stages] = place;
            speeds[stages] = speed;
            stages++;
            return true;
        }

        /** Sets three settings one behind the other, if each is in its bounds. */
        private boolean setThree(int first, int[] values) {
            for (int i = 0; i < MOST_NUMBERS; i++) {
                if (values[i] < LEAST_SETTING[first + i] || values[i] > MOST_SETTING[first + i]) {
                    return false;
                }
            }
            System.arraycopy(values, 0, settings, first, MOST_NUMBERS);
            return true;
        }

        private boolean canBeLaid() {
            if (cavities == 0 || stages == 0) {
                return false;
            }
            for (int c = 0; c < cores; c++) {
                if (!chainEnds(c)) {
                    return false;
                }
            }
            return true;
        }

        /** From core to earlier core there are no more steps than cores, or some core comes again. */
        private boolean chainEnds(int c) {
            int core = c;
            for (int step = 0; step < cores; step++) {
                if (core >= cores) {
                    break;
                }
                core = ahead[core];
            }
            return core == NO_CORE;
        }

        /** The k-th core of those that go in one behind the other. */
        private int coreInTurn(int k) {
            int in = 0;
            int last = NONE;
            for (int turn = 0; turn <= k && turn < cores; turn++) {
                last = nextIn(in);
                if (last == NONE) {
                    return NONE;
                }
                in |= 1 << last;
            }
            return last;
        }

        private int nextIn(int in) {
            for (int c = 0; c < cores; c++) {
                boolean out = (in >> c & 1) == 0;
                if (out && (ahead[c] == NO_CORE || (in >> ahead[c] & 1) == 1)) {
                    return c;
                }
            }
            return NONE;
        }
    }

    /** What changes can change. */
    private static final class State {
        private final int[] drags = new int[MOST_CAVITIES];
        private final int[] speeds = new int[MOST_STAGES];
        private final int[] settings = new int[SETTINGS];
        private boolean shut = false;
        /** The bit 1 << c is set while core c is in. */
        private int coresIn = 0;
        private boolean loaded = false;
        private boolean hot = false;
        private int made = 0;
        private int width = FIRST_WIDE;
        private final Band taught = new Band();

        private void startWith(Plan plan) {
            System.arraycopy(plan.drags, 0, drags, 0, MOST_CAVITIES);
            System.arraycopy(plan.speeds, 0, speeds, 0, MOST_STAGES);
            System.arraycopy(plan.settings, 0, settings, 0, SETTINGS);
            shut = false;
            coresIn = 0;
            loaded = false;
            hot = false;
            made = 0;
            width = FIRST_WIDE;
            taught.clear();
        }

        private void copyFrom(State other) {
            System.arraycopy(other.drags, 0, drags, 0, MOST_CAVITIES);
            System.arraycopy(other.speeds, 0, speeds, 0, MOST_STAGES);
            System.arraycopy(other.settings, 0, settings, 0, SETTINGS);
            shut = other.shut;
            coresIn = other.coresIn;
            loaded = other.loaded;
            hot = other.hot;
            made = other.made;
            width = other.width;
            taught.copyFrom(other.taught);
        }

        private boolean isIn(int c) {
            return (coresIn >> c & 1) == 1;
        }
    }

    /** THE BAND. Ticks that no taught shot has stand with 0, as they are compared. */
    private static final class Band {
        private int teachers = 0;
        private int shortest = 0;
        private int longest = 0;
        private final int[] least = new int[MOST_TICKS];
        private final int[] greatest = new int[MOST_TICKS];

        private void clear() {
            teachers = 0;
            shortest = 0;
            longest = 0;
        }

        private void copyFrom(Band other) {
            teachers = other.teachers;
            shortest = other.shortest;
            longest = other.longest;
            System.arraycopy(other.least, 0, least, 0, MOST_TICKS);
            System.arraycopy(other.greatest, 0, greatest, 0, MOST_TICKS);
        }

        private void learn(Shot good) {
            boolean first = teachers == 0;
            for (int i = 0; i < MOST_TICKS; i++) {
                int pressure = good.pressures[i];
                least[i] = first ? pressure : Math.min(least[i], pressure);
                greatest[i] = first ? pressure : Math.max(greatest[i], pressure);
            }
            shortest = first ? good.ticks : Math.min(shortest, good.ticks);
            longest = Math.max(longest, good.ticks);
            teachers++;
        }

        private int amissIn(Shot seen, int width) {
            int amiss = 0;
            for (int i = 0; i < MOST_TICKS; i++) {
                int pressure = seen.pressures[i];
                if (pressure < least[i] - width || pressure > greatest[i] + width) {
                    amiss++;
                }
            }
            return amiss;
        }

        private boolean rejects(Shot seen, int width) {
            if (teachers == 0) {
                return false;
            }
            return amissIn(seen, width) > AMISS_LET_BY
                    || shortest - seen.ticks > TICKS_LET_BY
                    || seen.ticks - longest > TICKS_LET_BY;
        }
    }

    /** One shot: how it went, and how it is made. */
    private static final class Shot {
        private final int[] has = new int[MOST_CAVITIES];
        /** Ticks are counted from 1: 0 stands for none. */
        private final int[] firstAt = new int[MOST_CAVITIES];
        private final int[] fullAt = new int[MOST_CAVITIES];
        /** 0 behind the last tick of the hold. */
        private final int[] pressures = new int[MOST_TICKS];
        private int place = 0;
        private int fillTicks = 0;
        private int ticks = 0;
        private int coolTicks = 0;
        private int why = NONE;

        private void make(Plan plan, State set, int by) {
            clear();
            fill(plan, set, by);
            hold(plan, set);
            coolTicks = set.settings[COOL_TICKS];
        }

        private void clear() {
            for (int c = 0; c < MOST_CAVITIES; c++) {
                has[c] = 0;
                firstAt[c] = 0;
                fullAt[c] = 0;
            }
            for (int i = 0; i < MOST_TICKS; i++) {
                pressures[i] = 0;
            }
            place = 0;
            ticks = 0;
            why = NONE;
        }

        private void fill(Plan plan, State set, int by) {
            for (int tick = 1; tick <= MOST_FILL && why == NONE; tick++) {
                ticks = tick;
                int goal = Math.min(FARTHEST, place + speedHere(plan, set, by));
                int pressure = 0;
                for (int melt = place; melt < goal; melt++) {
                    pressure = Math.max(pressure, push(plan, set));
                }
                place = goal;
                pressures[tick - 1] = Math.min(MOST_PRESSURE, pressure);
                why = whySwitch(set);
            }
            fillTicks = ticks;
        }

        private int speedHere(Plan plan, State set, int by) {
            int stage = 0;
            for (int k = 1; k < plan.stages; k++) {
                if (plan.places[k] <= place) {
                    stage = k;
                }
            }
            return Math.max(1, Math.min(MOST_SPEED, set.speeds[stage] + by));
        }

        /** The lowest reason to switch behind the last tick, or NONE. */
        private int whySwitch(State set) {
            if (place >= set.settings[SWITCH_PLACE]) {
                return SWITCH_PLACE;
            }
            if (ticks >= 1 && pressures[ticks - 1] >= set.settings[SWITCH_PRESSURE]) {
                return SWITCH_PRESSURE;
            }
            return ticks >= set.settings[SWITCH_TIME] ? SWITCH_TIME : NONE;
        }

        /** One melt comes into the cavity that takes it most easily: with what pressure. */
        private int push(Plan plan, State set) {
            int c = easiest(plan, set, false);
            int effort = 0;
            if (c != NONE) {
                effort = set.drags[c] * (has[c] + 1);
            } else {
                c = easiest(plan, set, true);
                if (c == NONE) {
                    return 0;
                }
                effort = FULL_TIMES * set.drags[c] * has[c];
            }
            addMelt(c, plan);
            return effort;
        }

        /** The cavity with the least effort, of those that are full or of those that are not; NONE. */
        private int easiest(Plan plan, State set, boolean full) {
            int best = NONE;
            int least = 0;
            for (int c = 0; c < plan.cavities; c++) {
                if (has[c] >= plan.volumes[c] == full) {
                    int effort = set.drags[c] * (full ? has[c] : has[c] + 1);
                    if (best == NONE || effort < least) {
                        best = c;
                        least = effort;
                    }
                }
            }
            return best;
        }

        private void addMelt(int c, Plan plan) {
            if (has[c] == 0) {
                firstAt[c] = ticks;
            }
            has[c]++;
            if (has[c] == plan.volumes[c]) {
                fullAt[c] = ticks;
            }
        }

        private void hold(Plan plan, State set) {
            int pressure = set.settings[HOLD_PRESSURE];
            int last = Math.min(MOST_TICKS, fillTicks + set.settings[HOLD_TICKS]);
            for (int tick = fillTicks + 1; tick <= last; tick++) {
                ticks = tick;
                for (int c = 0; c < plan.cavities; c++) {
                    boolean takes = !isFrozen(c, plan) && set.drags[c] * has[c] < pressure;
                    if (takes && place < FARTHEST) {
                        addMelt(c, plan);
                        place++;
                    }
                }
                pressures[tick - 1] = pressure;
            }
        }

        /** The tick that goes on has not gone by, so it is not counted. */
        private boolean isFrozen(int c, Plan plan) {
            return firstAt[c] != 0 && ticks - firstAt[c] >= plan.freezes[c];
        }

        /** As shot() numbers it, what 0 to 6. */
        private int told(int what) {
            switch (what) {
                case 0: return fillTicks;
                case 1: return ticks;
                case 2: return why;
                case 3: return FARTHEST - place;
                case 4: return balance();
                case 5: return whole();
                case 6: return greatestPressure();
                default: return BAD;
            }
        }

        private int whole() {
            return ticks + coolTicks;
        }

        private int balance() {
            int first = MOST_TICKS;
            int last = 0;
            for (int c = 0; c < MOST_CAVITIES; c++) {
                if (fullAt[c] != 0) {
                    first = Math.min(first, fullAt[c]);
                    last = Math.max(last, fullAt[c]);
                }
            }
            return Math.max(0, last - first);
        }

        private int greatestPressure() {
            int greatest = 0;
            for (int i = 0; i < MOST_TICKS; i++) {
                greatest = Math.max(greatest, pressures[i]);
            }
            return greatest;
        }

        private boolean isShort(Plan plan) {
            for (int c = 0; c < plan.cavities; c++) {
                if (has[c] < plan.volumes[c]) {
                    return true;
                }
            }
            return false;
        }

        /** Whether a cavity has so much too little or too much that the shot is bad without a band. */
        private boolean isFarOff(Plan plan) {
            for (int c = 0; c < plan.cavities; c++) {
                if (Math.abs(has[c] - plan.volumes[c]) >= LEAST_WRONG) {
                    return true;
                }
            }
            return false;
        }
    }
}
