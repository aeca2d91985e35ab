import java.util.LinkedHashMap;
import java.util.Map;
import java.util.function.Consumer;

/** Ways from a new object to where things stand otherwise. */
final class Ways {
    static final String FIRST_TEXT = "v12,2,6;v12,3,5;v8,4,4;c1;c9;c1;s0,2;s10,5;s30,3;o36,60,20;h50,6,9;";

    static final Consumer<Watched> NEW = m -> { };
    static final Consumer<Watched> SHUT = m -> m.mould(1);
    static final Consumer<Watched> ONE_IN = SHUT.andThen(m -> m.core(1, 1));
    static final Consumer<Watched> READY = Watched::makeReady;
    static final Consumer<Watched> HOT = READY.andThen(Watched::shoot);
    static final Consumer<Watched> COOL = HOT.andThen(Watched::waitCool);
    static final Consumer<Watched> COOL_ONE_OUT = COOL.andThen(m -> m.core(2, 0));
    static final Consumer<Watched> COOL_ALL_OUT = COOL.andThen(Watched::coresOut);
    static final Consumer<Watched> FALLEN = Watched::cycle;
    static final Consumer<Watched> TAUGHT = FALLEN.andThen(m -> m.teach(0));
    static final Consumer<Watched> FORGOTTEN = TAUGHT.andThen(Watched::forget);
    static final Consumer<Watched> TOLD_ANEW = m -> {
        m.wide(5);
        m.drag(1, 9);
        m.speed(2, 1);
        m.tell(3, 60);
    };
    static final Consumer<Watched> TAUGHT_AND_HOT = TAUGHT.andThen(TOLD_ANEW).andThen(HOT);
    static final Consumer<Watched> UNDONE_TWICE = TAUGHT.andThen(TOLD_ANEW).andThen(m -> {
        m.undo();
        m.undo();
    });
    static final Consumer<Watched> ALL_UNDONE = TAUGHT.andThen(TOLD_ANEW).andThen(m -> {
        for (int i = 0; i < 4; i++) {
            m.undo();
        }
    });
    static final Consumer<Watched> HALF_A_TEXT = TAUGHT.andThen(m -> m.type("v1,1,1;c9"));
    static final Consumer<Watched> FULL_TEXT = m -> {
        for (int i = 0; i < 200; i++) {
            m.write('v');
        }
    };
    static final Consumer<Watched> MANY_SHOTS = laid("v3,1,1;v2,2,2;s0,1;o99,99,5;h9,3,1;").andThen(m -> {
        for (int i = 0; i < 17; i++) {
            m.tell(2, i % 7 + 1);
            m.cycle();
        }
    });

    private Ways() { }

    static Consumer<Watched> laid(String text) {
        return m -> {
            m.type(text);
            Check.yes("lay " + text, m.lay() > 0);
        };
    }

    /** From a shut mould of four cores. */
    static Consumer<Watched> allFourIn() {
        return m -> {
            for (int k = 0; k < 4; k++) {
                m.core(m.order(k), 1);
            }
            Check.same("all in", m.count(4), 4);
        };
    }

    /** Every way, with its name. */
    static Map<String, Consumer<Watched>> all() {
        Map<String, Consumer<Watched>> ways = new LinkedHashMap<>();
        ways.put("new", NEW);
        ways.put("shut", SHUT);
        ways.put("one core in", ONE_IN);
        ways.put("ready", READY);
        ways.put("hot", HOT);
        ways.put("cool", COOL);
        ways.put("cool, one core out", COOL_ONE_OUT);
        ways.put("cool, all cores out", COOL_ALL_OUT);
        ways.put("fallen out", FALLEN);
        ways.put("taught", TAUGHT);
        ways.put("forgotten", FORGOTTEN);
        ways.put("told anew", TOLD_ANEW);
        ways.put("taught and hot", TAUGHT_AND_HOT);
        ways.put("undone twice", UNDONE_TWICE);
        ways.put("all undone", ALL_UNDONE);
        ways.put("half a text", HALF_A_TEXT);
        ways.put("full text", FULL_TEXT);
        ways.put("many shots", MANY_SHOTS);
        return ways;
    }

    static Watched gone(Consumer<Watched> way) {
        Watched m = new Watched();
        way.accept(m);
        return m;
    }
}
