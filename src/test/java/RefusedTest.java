import java.util.ArrayList;
import java.util.List;
import java.util.Map;
import java.util.function.Consumer;
import java.util.function.ToIntFunction;

/** The terms on BAD, NO, NONE and FULL: whatever is refused, from wherever, changes nothing; nor does any look. */
final class RefusedTest {
    private static final int BAD = MouldShots.BAD, NO = MouldShots.NO, FULL = MouldShots.FULL, NONE = MouldShots.NONE;
    private static final int[] SOME = {Integer.MIN_VALUE, -1, 0, 1, 2, 3, 4, 9, 21, 100, Integer.MAX_VALUE};

    private record Call(String name, ToIntFunction<Watched> on) { }

    private RefusedTest() { }

    private static List<Call> changes() {
        List<Call> calls = new ArrayList<>();
        calls.add(new Call("lay()", Watched::lay));
        calls.add(new Call("shoot()", Watched::shoot));
        calls.add(new Call("waitCool()", Watched::waitCool));
        calls.add(new Call("undo()", Watched::undo));
        calls.add(new Call("forget()", Watched::forget));
        for (int a : SOME) {
            calls.add(new Call("write(" + a + ")", m -> m.write(a)));
            calls.add(new Call("mould(" + a + ")", m -> m.mould(a)));
            calls.add(new Call("teach(" + a + ")", m -> m.teach(a)));
            calls.add(new Call("wide(" + a + ")", m -> m.wide(a)));
            for (int b : SOME) {
                calls.add(new Call("core(" + a + ", " + b + ")", m -> m.core(a, b)));
                calls.add(new Call("drag(" + a + ", " + b + ")", m -> m.drag(a, b)));
                calls.add(new Call("speed(" + a + ", " + b + ")", m -> m.speed(a, b)));
                calls.add(new Call("tell(" + a + ", " + b + ")", m -> m.tell(a, b)));
            }
        }
        return calls;
    }

    private static boolean isRefused(int answer) {
        return answer == BAD || answer == NO || answer == FULL || answer == NONE;
    }

    static void terms3_whateverIsRefusedChangesNothing() {
        for (Map.Entry<String, Consumer<Watched>> way : Ways.all().entrySet()) {
            Map<String, Integer> due = Looks.all(Ways.gone(way.getValue()));
            int refused = 0;
            for (Call call : changes()) {
                Watched asked = Ways.gone(way.getValue());
                int answer = call.on.applyAsInt(asked);
                Check.yes(call.name + " has an answer", answer >= 0 || isRefused(answer));
                if (answer < 0) {
                    refused++;
                    Check.alike(way.getKey() + ", " + call.name, Looks.all(asked), due);
                }
            }
            Check.yes(way.getKey() + ": " + refused + " were refused", refused > 300);
        }
    }

    private static List<Call> looks() {
        List<Call> calls = new ArrayList<>();
        calls.add(new Call("fault()", Watched::fault));
        for (int a : SOME) {
            calls.add(new Call("even(" + a + ")", m -> m.even(a)));
            calls.add(new Call("earlier(" + a + ")", m -> m.earlier(a)));
            calls.add(new Call("order(" + a + ")", m -> m.order(a)));
            calls.add(new Call("count(" + a + ")", m -> m.count(a)));
            for (int b : SOME) {
                calls.add(new Call("against(" + a + ", " + b + ")", m -> m.against(a, b)));
                calls.add(new Call("band(" + a + ", " + b + ")", m -> m.band(a, b)));
                calls.add(new Call("shot(" + a + ", " + b + ")", m -> m.shot(a, b)));
                calls.add(new Call("curve(" + a + ", " + b + ")", m -> m.curve(a, b)));
                calls.add(new Call("cavity(" + a + ", " + b + ")", m -> m.cavity(a, b)));
                calls.add(new Call("tried(" + a + ", " + b + ")", m -> m.tried(a, b)));
                calls.add(new Call("filled(0, " + a + ", " + b + ")", m -> m.filled(0, a, b)));
                calls.add(new Call("filled(" + b + ", 0, " + a + ")", m -> m.filled(b, 0, a)));
            }
        }
        return calls;
    }

    static void terms3_noLookChangesAnything() {
        for (Map.Entry<String, Consumer<Watched>> way : Ways.all().entrySet()) {
            Map<String, Integer> due = Looks.all(Ways.gone(way.getValue()));
            for (Call call : looks()) {
                Watched asked = Ways.gone(way.getValue());
                int answer = call.on.applyAsInt(asked);
                Check.yes(call.name + " has an answer", answer >= 0 || isRefused(answer));
                Check.alike(way.getKey() + ", " + call.name, Looks.all(asked), due);
            }
        }
    }

    static void terms3_badGoesAheadOfNo() {
        Refused.call("drag(3, 2)", Ways.NEW, BAD, m -> m.drag(3, 2));
        Refused.call("speed(3, 2)", Ways.NEW, BAD, m -> m.speed(3, 2));
        Refused.call("tell(6, 36)", Ways.NEW, BAD, m -> m.tell(6, 36));
        Refused.call("mould(-1)", Ways.HOT, BAD, m -> m.mould(-1));
        Refused.call("core(-1, 0)", Ways.HOT, BAD, m -> m.core(-1, 0));
        Refused.call("teach(-1)", Ways.FALLEN, BAD, m -> m.teach(-1));
    }

    static void terms3_badGoesAheadOfNone() {
        Refused.call("shot(1, 7)", Ways.FALLEN, BAD, m -> m.shot(1, 7));
        Refused.call("band(61, 0)", Ways.NEW, BAD, m -> m.band(61, 0));
        Refused.call("band(1, 2)", Ways.NEW, BAD, m -> m.band(1, 2));
        Refused.call("curve(1, 60)", Ways.FALLEN, BAD, m -> m.curve(1, 60));
        Refused.call("curve(0, 61)", Ways.FALLEN, BAD, m -> m.curve(0, 61));
        Refused.call("filled(1, 0, 3)", Ways.FALLEN, BAD, m -> m.filled(1, 0, 3));
    }
}
