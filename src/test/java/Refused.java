import java.util.function.Consumer;
import java.util.function.ToIntFunction;

/**
 * A refused call has its answer, and nothing is changed by it, as later calls show: an object that was asked and its twin
 * that was not answer all looks alike, as they stand and with one to four changes undone.
 */
final class Refused {
    private Refused() { }

    static void call(String what, Consumer<Watched> way, int due, ToIntFunction<Watched> call) {
        for (int undone = 0; undone <= 4; undone++) {
            Watched asked = Ways.gone(way);
            Check.same(what, call.applyAsInt(asked), due);
            Watched twin = Ways.gone(way);
            for (int i = 0; i < undone; i++) {
                Check.same(what + ", then undo()", asked.undo(), twin.undo());
            }
            Check.alike(what + ", then " + undone + " undone", Looks.all(asked), Looks.all(twin));
        }
    }
}
