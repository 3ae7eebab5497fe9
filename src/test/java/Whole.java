import java.util.ArrayList;
import java.util.List;
import java.util.function.Supplier;
import java.util.function.ToIntFunction;

/** Whole objects compared: all that they tell, also behind undo(), restore() and readMesh(). */
final class Whole {
    private Whole() {
    }

    /** Lamps that are linked, deaf, out, pushed; all four states, a snapshot, a text, and settings of its own. */
    static BlinkMesh busy() {
        BlinkMesh x = Due.mesh("99,96,10*70,5;ab,bc");
        x.set(2, 7);
        x.pass(2);
        x.keep();
        x.turn(3, false);
        x.tune(2, 40, 60);
        Due.type(x, "7,8*60;ab");
        return x;
    }

    /** Two lamps that are not linked, a state, and no snapshot. */
    static BlinkMesh calm() {
        return Due.mesh("98,95");
    }

    /** The state: everything but the text, the history and the snapshot. */
    static List<Integer> state(BlinkMesh x) {
        List<Integer> told = new ArrayList<>();
        for (int what = 0; what < 12; what++) {
            told.add(x.count(what));
        }
        for (int lamp = 0; lamp < 16; lamp++) {
            for (int what = 0; what < 10; what++) {
                told.add(x.lamp(lamp, what));
            }
        }
        return told;
    }

    /** What objects that are made so tell; one is made for each look, since a look takes many of its calls. */
    static List<Object> all(Supplier<BlinkMesh> made) {
        List<Object> told = new ArrayList<>();
        BlinkMesh x = made.get();
        told.add(x.count(12));
        told.add(x.count(13));
        told.add(state(x));
        for (int undos = 1; undos <= 5; undos++) {
            BlinkMesh back = made.get();
            for (int undo = 0; undo < undos; undo++) {
                told.add(back.undo());
            }
            told.add(state(back));
        }
        BlinkMesh restored = made.get();
        told.add(restored.restore());
        told.add(state(restored));
        BlinkMesh read = made.get();
        told.add(read.readMesh());
        told.add(state(read));
        return told;
    }

    /** The call gives this answer and changes nothing. */
    static void isLeft(Sentences says, Supplier<BlinkMesh> made, String call, ToIntFunction<BlinkMesh> asks, int want) {
        says.due(call, asks.applyAsInt(made.get()), want);
        says.dueSame("all that is told behind " + call, all(behind(made, asks)), all(made));
    }

    /** The call tells something, and changes nothing. */
    static void isOnlyTold(Sentences says, Supplier<BlinkMesh> made, String call, ToIntFunction<BlinkMesh> asks) {
        says.dueSame("all that is told behind " + call, all(behind(made, asks)), all(made));
    }

    /** The call is an act that succeeds: it records the state that was before it, and undo() brings that back. */
    static void isRecorded(Sentences says, Supplier<BlinkMesh> made, String call, ToIntFunction<BlinkMesh> act) {
        BlinkMesh before = made.get();
        BlinkMesh x = made.get();
        int states = Math.min(before.count(12) + 1, 4);
        says.due(call + " is no error", act.applyAsInt(x) >= 0 ? 1 : 0, 1);
        says.due("states behind " + call, x.count(12), states);
        says.due("undo() behind " + call, x.undo(), states - 1);
        says.dueSame("the state behind " + call + " and undo()", state(x), state(before));
    }

    private static Supplier<BlinkMesh> behind(Supplier<BlinkMesh> made, ToIntFunction<BlinkMesh> call) {
        return () -> {
            BlinkMesh x = made.get();
            call.applyAsInt(x);
            return x;
        };
    }
}
