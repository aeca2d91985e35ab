import java.util.Random;

/** Long runs of calls, chance's but the same each time, on the class and on PlainModel: each answer must be the same. */
final class ComparedRuns {
    private static final int RUNS = 1500;
    private static final int CALLS = 512;
    private static final int[] FAR = {-1, -2, -9, 7, 10, 21, 61, 100, 127, Integer.MAX_VALUE, Integer.MIN_VALUE};

    private final Random random;
    private final MouldShots m = new MouldShots();
    private final PlainModel plain = new PlainModel();
    private final int run;
    private int calls = 0;

    private ComparedRuns(int run) {
        this.run = run;
        this.random = new Random(77001L * run + 5);
    }

    static void run() {
        for (int run = 0; run < RUNS; run++) {
            new ComparedRuns(run).go();
        }
    }

    private void go() {
        if (random.nextInt(4) != 0) {
            tellText();
        }
        while (calls < CALLS) {
            int kind = random.nextInt(30);
            if (kind < 2) {
                cycle();
            } else if (kind == 2 && random.nextInt(6) == 0) {
                tellText();
            } else {
                any(random.nextInt(27));
            }
        }
    }

    private int upTo(int most) {
        return random.nextInt(25) == 0 ? FAR[random.nextInt(FAR.length)] : random.nextInt(most + 1);
    }

    private void cycle() {
        call(4, 1, 0, 0);
        for (int k = 0; k < plain.count(1); k++) {
            call(5, plain.order(k), 1, 0);
        }
        call(10, 0, 0, 0);
        if (random.nextInt(3) == 0) {
            any(random.nextInt(27));
        }
        call(11, 0, 0, 0);
        for (int k = plain.count(1) - 1; k >= 0; k--) {
            call(5, plain.order(k), 0, 0);
        }
        call(4, 0, 0, 0);
    }

    private void tellText() {
        StringBuilder text = new StringBuilder();
        boolean gentle = random.nextInt(3) != 0;
        int cavities = random.nextInt(gentle ? 3 : 6) + 1;
        for (int i = 0; i < cavities; i++) {
            int volume = random.nextInt(gentle ? 9 : 30) + 1;
            item(text, 'v', volume, random.nextInt(random.nextBoolean() ? 3 : 9) + 1, random.nextInt(9) + 1);
        }
        int cores = random.nextInt(5);
        for (int i = 0; i < cores; i++) {
            item(text, 'c', random.nextInt(3) == 0 ? 9 : random.nextInt(random.nextInt(9) == 0 ? 4 : cores));
        }
        int place = 0;
        int stages = random.nextInt(4) + 1;
        for (int i = 0; i < stages; i++) {
            item(text, 's', place, random.nextInt(9) + 1);
            place += random.nextInt(30) + 1;
        }
        if (random.nextBoolean()) {
            item(text, 'o', random.nextInt(99) + 1, random.nextInt(99) + 1, random.nextInt(40) + 1);
        }
        if (random.nextBoolean()) {
            item(text, 'h', random.nextInt(100), random.nextInt(21), random.nextInt(100));
        }
        if (random.nextInt(8) == 0) {
            text.setCharAt(random.nextInt(text.length()), "vcsoh0123456789,; x".charAt(random.nextInt(19)));
        }
        call(1, 0, 0, 0);
        for (int i = 0; i < text.length(); i++) {
            call(0, text.charAt(i), 0, 0);
        }
        call(2, 0, 0, 0);
        call(3, 0, 0, 0);
    }

    private static void item(StringBuilder text, char kind, int... numbers) {
        text.append(kind);
        for (int i = 0; i < numbers.length; i++) {
            text.append(i == 0 ? "" : ",").append(numbers[i]);
        }
        text.append(';');
    }

    private void any(int which) {
        int a = 0;
        int b = 0;
        int c = 0;
        switch (which) {
            case 0: a = random.nextInt(140) - 5; break;
            case 1: if (random.nextInt(9) != 0) return; break;
            case 3: if (random.nextInt(9) != 0) return; break;
            case 4: a = upTo(1); break;
            case 5: case 6: a = upTo(4); b = upTo(1); break;
            case 7: a = upTo(5); b = upTo(9); break;
            case 8: a = upTo(3); b = upTo(9); break;
            case 9: a = upTo(5); b = upTo(random.nextBoolean() ? 99 : 20); break;
            case 13: a = upTo(Math.max(0, plain.count(6) - 1)); break;
            case 14: if (random.nextInt(4) != 0) return; break;
            case 15: a = upTo(20); break;
            case 16: a = upTo(random.nextBoolean() ? 60 : 20); b = upTo(1); break;
            case 17: a = upTo(12); b = upTo(8); break;
            case 18: a = upTo(Math.max(0, plain.count(6) - 1)); b = upTo(60); break;
            case 19: a = upTo(5); b = upTo(2); break;
            case 20: a = upTo(Math.max(0, plain.count(6) - 1)); b = upTo(5); c = upTo(4); break;
            case 21: a = random.nextInt(19) - 9; b = upTo(6); break;
            case 22: a = upTo(1); break;
            case 23: case 24: a = upTo(4); break;
            case 25: case 26: a = upTo(14); break;
            default: break;
        }
        call(which, a, b, c);
    }

    private void call(int which, int a, int b, int c) {
        if (calls >= CALLS) {
            return;
        }
        calls++;
        int got;
        int due;
        switch (which) {
            case 0: got = m.write(a); due = plain.write(a); break;
            case 1: got = m.wipe(); due = plain.wipe(); break;
            case 2: got = m.fault(); due = plain.fault(); break;
            case 3: got = m.lay(); due = plain.lay(); break;
            case 4: got = m.mould(a); due = plain.mould(a); break;
            case 5: got = m.core(a, b); due = plain.core(a, b); break;
            case 6: got = m.against(a, b); due = plain.against(a, b); break;
            case 7: got = m.drag(a, b); due = plain.drag(a, b); break;
            case 8: got = m.speed(a, b); due = plain.speed(a, b); break;
            case 9: got = m.tell(a, b); due = plain.tell(a, b); break;
            case 10: got = m.shoot(); due = plain.shoot(); break;
            case 11: got = m.waitCool(); due = plain.waitCool(); break;
            case 12: got = m.undo(); due = plain.undo(); break;
            case 13: got = m.teach(a); due = plain.teach(a); break;
            case 14: got = m.forget(); due = plain.forget(); break;
            case 15: got = m.wide(a); due = plain.wide(a); break;
            case 16: got = m.band(a, b); due = plain.band(a, b); break;
            case 17: got = m.shot(a, b); due = plain.shot(a, b); break;
            case 18: got = m.curve(a, b); due = plain.curve(a, b); break;
            case 19: got = m.cavity(a, b); due = plain.cavity(a, b); break;
            case 20: got = m.filled(a, b, c); due = plain.filled(a, b, c); break;
            case 21: got = m.tried(a, b); due = plain.tried(a, b); break;
            case 22: got = m.even(a); due = plain.even(a); break;
            case 23: got = m.earlier(a); due = plain.earlier(a); break;
            case 24: got = m.order(a); due = plain.order(a); break;
            default: got = m.count(a); due = plain.count(a); break;
        }
        if (got != due) {
            Check.same("run " + run + ", call " + calls + ": " + which + "(" + a + ", " + b + ", " + c + ")", got, due);
        } else {
            Check.passed++;
        }
    }
}
