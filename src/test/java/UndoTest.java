import java.util.ArrayDeque;
import java.util.ArrayList;
import java.util.Deque;
import java.util.List;
import java.util.function.Consumer;
import java.util.function.ToIntFunction;

/** Promise 14 and the changes of part 3 of the terms: undo. */
final class UndoTest {
    private static final int BAD = MouldShots.BAD, NO = MouldShots.NO, NONE = MouldShots.NONE;
    private static final String FREE = "v9,1,9;s0,1;o99,99,40;h0,0,0;";

    private UndoTest() { }

    static void promise14_noWithNothingToUndo() {
        Refused.call("undo(), new", Ways.NEW, NO, Watched::undo);
        Refused.call("undo(), all undone", Ways.ALL_UNDONE, NO, Watched::undo);
        Refused.call("undo(), laid", Ways.TAUGHT_AND_HOT.andThen(m -> m.layAnew(FREE)), NO, Watched::undo);
        Consumer<Watched> lookedAt = m -> {
            m.tried(0, 0);
            m.even(0);
            m.fault();
        };
        Refused.call("undo(), looked at", lookedAt, NO, Watched::undo);
    }

    static void promise14_tellsHowManyMoreCanBe() {
        for (int changes = 1; changes <= 7; changes++) {
            Watched m = new Watched();
            for (int i = 0; i < changes; i++) {
                m.wide(i + 3);
                Check.same("count(12)", m.count(12), Math.min(4, i + 1));
            }
            for (int left = Math.min(4, changes) - 1; left >= 0; left--) {
                Check.same("undo()", m.undo(), left);
                Check.same("count(12)", m.count(12), left);
            }
            Check.same("undo(), no more", m.undo(), NO);
        }
    }

    static void promise14_theLastFourCanBe() {
        Watched m = new Watched();
        for (int w = 3; w <= 9; w++) {
            m.wide(w);
        }
        for (int w = 8; w >= 5; w--) {
            m.undo();
            Check.same("wide undone", m.count(9), w);
        }
        Check.same("undo(), the fifth", m.undo(), NO);
        Check.same("wide", m.count(9), 5);
    }

    /** Changes and undoings in turn, so that what is kept for undoing comes round again and again. */
    static void promise14_comesRoundAgain() {
        Watched m = new Watched();
        Deque<Integer> were = new ArrayDeque<>();
        int wide = 2;
        for (int step = 0; m.left() > 3; step++) {
            if (step * step % 7 < 3 || were.isEmpty()) {
                were.push(wide);
                if (were.size() > 4) {
                    were.removeLast();
                }
                int next = (wide + 1 + step % 5) % 21;
                Check.same("wide()", m.wide(next), wide);
                wide = next;
            } else {
                wide = were.pop();
                Check.same("undo()", m.undo(), were.size());
            }
            Check.same("count(9)", m.count(9), wide);
            Check.same("count(12)", m.count(12), were.size());
        }
    }

    static void promise14_aChangeBehindAnUndoneOne() {
        Watched m = new Watched();
        for (int w = 3; w <= 6; w++) {
            m.wide(w);
        }
        m.undo();
        m.undo();
        m.wide(20);
        Check.same("count(12)", m.count(12), 3);
        Check.same("undo()", m.undo(), 2);
        Check.same("wide", m.count(9), 4);
        Check.same("undo()", m.undo(), 1);
        Check.same("wide", m.count(9), 3);
        Check.same("undo()", m.undo(), 0);
        Check.same("wide", m.count(9), 2);
    }

    static void promise14_noneBehindLay() {
        Watched m = Ways.gone(Ways.TAUGHT_AND_HOT);
        m.layAnew(FREE);
        Check.same("count(12)", m.count(12), 0);
        Check.same("undo()", m.undo(), NO);
        m.wide(9);
        Check.same("undo()", m.undo(), 0);
        Check.same("undo()", m.undo(), NO);
        Check.same("what is laid stays", m.cavity(0, 0), 9);
    }

    static void promise14_aLayThatIsRefusedLeavesThem() {
        Watched m = Ways.gone(Ways.TOLD_ANEW);
        m.type("x;");
        Check.same("lay()", m.lay(), NO);
        Check.same("count(12)", m.count(12), 4);
        Check.same("undo()", m.undo(), 3);
    }

    /** The change is undone from wherever it can be made: looks are as they were, with older changes undone, too. */
    private static void undone(String what, Consumer<Watched> way, ToIntFunction<Watched> change) {
        Check.yes(what + " is a change", change.applyAsInt(Ways.gone(way)) >= 0);
        int undoable = Math.min(3, Ways.gone(way).count(12));
        for (int older = 0; older <= undoable; older++) {
            Watched changed = Ways.gone(way);
            change.applyAsInt(changed);
            Check.same(what + ", undo()", changed.undo(), undoable);
            Watched twin = Ways.gone(way);
            for (int i = 0; i < older; i++) {
                Check.yes(what + ", an older one", changed.undo() >= 0 && twin.undo() >= 0);
            }
            Check.alike(what + " undone, and " + older, Looks.butUndoable(changed), Looks.butUndoable(twin));
        }
    }

    static void promise14_aShotMade() {
        undone("shoot()", Ways.READY, Watched::shoot);
        undone("shoot(), the second", Ways.TAUGHT.andThen(Ways.READY), Watched::shoot);
        undone("shoot(), one of many", Ways.MANY_SHOTS.andThen(Ways.SHUT), Watched::shoot);
    }

    static void promise14_coolingOver() {
        undone("waitCool()", Ways.HOT, Watched::waitCool);
        undone("waitCool(), COOL told anew", Ways.HOT.andThen(m -> m.tell(5, 1)), Watched::waitCool);
    }

    static void promise14_theMouldMoved() {
        undone("mould(1)", Ways.NEW, m -> m.mould(1));
        undone("mould(0)", Ways.SHUT, m -> m.mould(0));
        undone("mould(0), a shot falls out", Ways.COOL_ALL_OUT, m -> m.mould(0));
    }

    static void promise14_aCoreMoved() {
        undone("core(1, 1)", Ways.SHUT, m -> m.core(1, 1));
        undone("core(0, 1)", Ways.ONE_IN, m -> m.core(0, 1));
        undone("core(0, 0)", Ways.READY, m -> m.core(0, 0));
        undone("core(2, 0)", Ways.COOL, m -> m.core(2, 0));
    }

    static void promise14_theBandTaught() {
        undone("teach(0)", Ways.FALLEN, m -> m.teach(0));
        undone("teach(0) again", Ways.TAUGHT, m -> m.teach(0));
        undone("teach(0), forgotten", Ways.FORGOTTEN, m -> m.teach(0));
        undone("teach(1), hot", Ways.TAUGHT.andThen(Ways.HOT), m -> m.teach(1));
    }

    static void promise14_theBandForgotten() {
        undone("forget()", Ways.TAUGHT, Watched::forget);
        undone("forget(), hot", Ways.TAUGHT_AND_HOT, Watched::forget);
    }

    static void promise14_wideDragSpeedToldAnew() {
        undone("wide(0)", Ways.TAUGHT, m -> m.wide(0));
        undone("wide(20)", Ways.TOLD_ANEW, m -> m.wide(20));
        undone("drag(0, 9)", Ways.TAUGHT, m -> m.drag(0, 9));
        undone("drag(1, 3)", Ways.TOLD_ANEW, m -> m.drag(1, 3));
        undone("speed(0, 9)", Ways.TAUGHT, m -> m.speed(0, 9));
        undone("speed(2, 3)", Ways.TOLD_ANEW, m -> m.speed(2, 3));
    }

    static void promise14_switchHoldCoolToldAnew() {
        for (int i = 0; i < 6; i++) {
            int what = i;
            undone("tell(" + i + ", 11)", Ways.TAUGHT, m -> m.tell(what, 11));
            undone("tell(" + i + ", 12), hot", Ways.TAUGHT_AND_HOT, m -> m.tell(what, 12));
        }
    }

    static void promise14_theBandInItsSixtiethTick() {
        Watched m = Watched.shotOf("v20,1,9;v20,1,9;s0,1;o99,99,40;h30,20,0;");
        m.teach(0);
        for (int w = 3; w <= 9; w++) {
            m.wide(w);
            sixtiethTick(m, 30);
        }
        m.forget();
        sixtiethTick(m, NONE);
        for (int i = 0; i < 4; i++) {
            m.undo();
            sixtiethTick(m, 30);
        }
    }

    private static void sixtiethTick(Watched m, int due) {
        Check.same("band(60, 0)", m.band(60, 0), due);
        Check.same("band(60, 1)", m.band(60, 1), due);
    }

    static void promise14_noChangeIsLeftBehindAShotThatWasUndone() {
        Watched m = Ways.gone(Ways.READY);
        m.shoot();
        m.undo();
        Check.same("count(5)", m.count(5), 0);
        Check.same("count(6)", m.count(6), 0);
        Check.same("count(7)", m.count(7), 0);
        Check.same("shot(0, 0)", m.shot(0, 0), BAD);
        Check.same("waitCool()", m.waitCool(), NO);
        Check.same("core(0, 0)", m.core(0, 0), 2);
    }

    static void promise14_theShotThatWasPushedOutComesBack() {
        for (int shots = 12; shots <= 40; shots += 4) {
            Watched m = Watched.laid(FREE);
            for (int i = 1; i <= shots; i++) {
                m.tell(2, i % 11 + 1);
                m.mould(1);
                m.shoot();
                if (i < shots) {
                    m.waitCool();
                    m.mould(0);
                }
            }
            int oldest = (shots - 12) % 11 + 1;
            Check.same("the oldest", m.shot(0, 0), (shots - 11) % 11 + 1);
            Check.same("undo()", m.undo(), 3);
            Check.same("kept", m.count(6), Math.min(shots - 1, 12));
            Check.same("made", m.count(7), shots - 1);
            Check.same("the oldest is back", m.shot(0, 0), shots == 12 ? 2 : oldest);
            Check.same("the newest", m.shot(m.count(6) - 1, 0), (shots - 1) % 11 + 1);
            Check.same("nothing in it", m.count(5), 0);
            m.tell(2, 12);
            m.shoot();
            Check.same("the newest now", m.shot(m.count(6) - 1, 0), 12);
            Check.same("the oldest now", m.shot(0, 0), (shots - 11) % 11 + 1);
            m.undo();
            Check.same("the oldest is back again", m.shot(0, 0), shots == 12 ? 2 : oldest);
        }
    }

    /** Made, undone, made otherwise: none of the shots that are kept is another one for it. */
    static void promise14_shotsThatStayAreAsTheyWere() {
        Watched m = Watched.laid(FREE);
        List<Integer> made = new ArrayList<>();
        for (int i = 0; m.left() > 30; i++) {
            m.tell(2, i % 13 + 1);
            m.mould(1);
            int ticks = m.shoot();
            if (i % 3 == 1) {
                m.undo();
                m.mould(0);
                continue;
            }
            made.add(ticks);
            m.waitCool();
            m.mould(0);
        }
        Check.same("made", m.count(7), made.size());
        for (int s = 0; s < 12; s++) {
            Check.same("shot(" + s + ", 0)", m.shot(s, 0), made.get(made.size() - 12 + s));
        }
    }

    static void terms3_madeShotsStayAsTheyWere() {
        Watched m = Ways.gone(Ways.FALLEN);
        int[] due = {10, 16, 1, 66, 2, 25, 72, NONE, 0};
        Check.shot(m, 0, due);
        m.drag(0, 9);
        m.drag(2, 1);
        m.speed(1, 1);
        for (int what = 0; what < 6; what++) {
            m.tell(what, 3);
        }
        Check.shot(m, 0, due);
        Check.filled(m, 0, 0, 13, 0, 1, 8, 1);
        Check.filled(m, 0, 2, 8, 0, 0, 9, 2);
        Check.same("curve(0, 10)", m.curve(0, 10), 72);
        m.cycle();
        Check.shot(m, 0, due);
        Check.yes("the next is another", m.shot(1, 1) != 16);
    }
}
