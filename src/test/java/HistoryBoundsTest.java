import java.util.ArrayList;
import java.util.List;
import java.util.function.ToIntFunction;

/** Promises 12 to 14, sentence by sentence: undo and the snapshot. */
public final class HistoryBoundsTest {
    private static final Sentences SAYS = new Sentences("HistoryBoundsTest");
    private static final int NONE = -5;
    private static final String ACT = "Each call of a method that is described as an act, and returns no error and not "
        + "NONE, records the state that was before it.";
    private static final String NOTHING = "A call that returns an error or NONE changes nothing.";
    private static final String STATE = "A state is everything but the text, the history and the snapshot.";
    private static final String SNAPSHOT = "There is one snapshot, empty at first.";

    public static void main(String[] args) {
        atMostFour();
        fullForEachAct();
        latestFirst();
        statesLeft();
        whatUndoLeaves();
        undoIsNoAct();
        keepTakes();
        keepAnswers();
        restoreBrings();
        restoreAnswers();
        whatRestoreLeaves();
        SAYS.end();
    }

    /** One call of each act, none of which is refused by Whole.busy(). */
    private static List<ToIntFunction<BlinkMesh>> acts() {
        List<ToIntFunction<BlinkMesh>> acts = new ArrayList<>();
        acts.add(x -> x.come(3, 80));
        acts.add(x -> x.goAway(1));
        acts.add(x -> x.turn(0, false));
        acts.add(x -> x.link(0, 2, true));
        acts.add(x -> x.tune(2, 1, 60));
        acts.add(x -> x.set(0, 50));
        acts.add(x -> x.pass(200));
        acts.add(x -> x.readMesh());
        acts.add(x -> x.restore());
        return acts;
    }

    private static void atMostFour() {
        SAYS.holds(12, "A history of at most 4 states is kept; when one more is recorded, the oldest one is dropped", () -> {
            for (int acts = 0; acts <= 9; acts++) {
                BlinkMesh x = new BlinkMesh();
                for (int act = 1; act <= acts; act++) {
                    x.pass(act);
                }
                int kept = Math.min(acts, 4);
                SAYS.due("count(12) behind " + acts + " acts", x.count(12), kept);
                for (int left = kept - 1; left >= 0; left--) {
                    SAYS.due("undo()", x.undo(), left);
                    int act = acts - kept + left;
                    SAYS.due("count(0), " + left + " left of " + acts, x.count(0), act * (act + 1) / 2);
                }
                SAYS.due("undo() of no more, behind " + acts + " acts", x.undo(), NONE);
            }
        });
    }

    private static void fullForEachAct() {
        SAYS.holds(12, ACT, () -> {
            int number = 0;
            for (ToIntFunction<BlinkMesh> act : acts()) {
                number++;
                Whole.isRecorded(SAYS, Whole::busy, "act " + number, act);
                BlinkMesh x = Whole.busy();
                act.applyAsInt(x);
                BlinkMesh plain = Whole.busy();
                SAYS.due("undo()", x.undo(), 3);
                for (int undo = 1; undo <= 3; undo++) {
                    SAYS.due("undo()", x.undo(), 3 - undo);
                    plain.undo();
                }
                SAYS.dueSame("the oldest state behind act " + number, Whole.state(x), Whole.state(plain));
                SAYS.due("undo() of the one that is dropped", x.undo(), NONE);
            }
        });
    }

    private static void latestFirst() {
        SAYS.holds(12, "undo() removes and restores the latest one.", () -> {
            BlinkMesh x = new BlinkMesh();
            x.come(99, 100);
            x.set(1, 50);
            x.pass(1);
            x.turn(0, false);
            x.undo();
            SAYS.due("lamp(0, 2)", x.lamp(0, 2), 1);
            SAYS.due("count(0)", x.count(0), 1);
            x.undo();
            SAYS.due("count(0)", x.count(0), 0);
            SAYS.due("count(10)", x.count(10), 50);
            x.undo();
            SAYS.due("count(10)", x.count(10), 10);
            SAYS.due("count(1)", x.count(1), 1);
            x.undo();
            SAYS.due("count(1)", x.count(1), 0);
        });
    }

    private static void statesLeft() {
        SAYS.holds(12, "Returns the number of states that are left; NONE if the history is empty.", () -> {
            SAYS.due("undo() of a new object", new BlinkMesh().undo(), NONE);
            BlinkMesh one = Whole.calm();
            SAYS.due("undo() of one state", one.undo(), 0);
            SAYS.due("undo() of none", one.undo(), NONE);
            SAYS.due("count(12)", one.count(12), 0);
            BlinkMesh x = Whole.busy();
            for (int left = 3; left >= 0; left--) {
                SAYS.due("undo()", x.undo(), left);
                SAYS.due("count(12)", x.count(12), left);
            }
            SAYS.due("undo() of none", x.undo(), NONE);
            SAYS.due("undo() of none again", x.undo(), NONE);
            x.pass(1);
            SAYS.due("undo() behind an act", x.undo(), 0);
        });
        SAYS.holds(12, NOTHING, () -> {
            Whole.isLeft(SAYS, BlinkMesh::new, "undo()", x -> x.undo(), NONE);
            Whole.isLeft(SAYS, HistoryBoundsTest::withoutHistory, "undo()", x -> x.undo(), NONE);
        });
    }

    private static BlinkMesh withoutHistory() {
        BlinkMesh x = Whole.busy();
        for (int undo = 0; undo < 4; undo++) {
            x.undo();
        }
        return x;
    }

    private static void whatUndoLeaves() {
        SAYS.holds(12, STATE, () -> {
            BlinkMesh x = Whole.busy();
            List<Integer> before = Whole.state(x);
            x.pass(200);
            x.type(';');
            x.undo();
            SAYS.dueSame("the state", Whole.state(x), before);
            SAYS.due("count(13)", x.count(13), 10);
            BlinkMesh y = Whole.busy();
            y.clearText();
            y.undo();
            SAYS.due("count(13) behind clearText() and undo()", y.count(13), 0);
        });
        SAYS.holds(12, SNAPSHOT, () -> {
            BlinkMesh x = new BlinkMesh();
            x.come(5, 100);
            x.keep();
            x.undo();
            SAYS.due("count(1)", x.count(1), 0);
            SAYS.due("restore() of what was kept before undo()", x.restore(), 1);
            BlinkMesh y = new BlinkMesh();
            y.keep();
            y.come(5, 100);
            y.restore();
            y.undo();
            SAYS.due("restore() once more", y.restore(), 0);
        });
    }

    private static void undoIsNoAct() {
        SAYS.holds(12, "Removes and restores the latest state of the history.", () -> {
            BlinkMesh x = new BlinkMesh();
            x.pass(5);
            x.pass(6);
            SAYS.due("undo()", x.undo(), 1);
            SAYS.due("count(0)", x.count(0), 5);
            SAYS.due("undo(), which goes on", x.undo(), 0);
            SAYS.due("count(0)", x.count(0), 0);
            x.pass(7);
            SAYS.due("count(12), the undone ones are gone", x.count(12), 1);
            SAYS.due("undo()", x.undo(), 0);
            SAYS.due("count(0)", x.count(0), 0);
        });
    }

    private static void keepTakes() {
        SAYS.holds(13, "Takes a snapshot of the state, in place of the one that was.", () -> {
            BlinkMesh x = new BlinkMesh();
            x.keep();
            x.come(5, 100);
            x.keep();
            x.come(6, 100);
            SAYS.due("restore() of the second", x.restore(), 1);
            SAYS.due("restore() again, the first is gone", x.restore(), 1);
            BlinkMesh y = Whole.busy();
            List<Integer> kept = Whole.state(y);
            y.keep();
            y.pass(300);
            y.goAway(0);
            y.restore();
            SAYS.dueSame("the state that was kept", Whole.state(y), kept);
        });
        SAYS.holds(13, STATE, () -> {
            BlinkMesh x = Whole.busy();
            x.keep();
            SAYS.due("count(12)", x.count(12), 4);
            SAYS.due("count(13)", x.count(13), 9);
            x.clearText();
            x.restore();
            SAYS.due("count(13), the text is not kept", x.count(13), 0);
        });
    }

    private static void keepAnswers() {
        SAYS.holds(13, "Returns how many lamps there are.", () -> {
            SAYS.due("keep() of none", new BlinkMesh().keep(), 0);
            SAYS.due("keep() of one", Due.mesh("5").keep(), 1);
            SAYS.due("keep() of sixteen", Due.sixteen().keep(), 16);
            BlinkMesh x = Due.mesh("5,6");
            x.turn(0, false);
            x.turn(1, false);
            SAYS.due("keep() of two that are out", x.keep(), 2);
        });
        SAYS.holds(13, SNAPSHOT, () -> {
            BlinkMesh x = new BlinkMesh();
            SAYS.due("restore() before keep()", x.restore(), NONE);
            x.keep();
            SAYS.due("restore() behind keep() of no lamps", x.restore(), 0);
        });
        SAYS.holds(13, ACT, () -> {
            BlinkMesh x = Whole.calm();
            x.keep();
            SAYS.due("count(12) behind keep(), which is no act", x.count(12), 1);
            SAYS.due("undo()", x.undo(), 0);
            SAYS.due("count(1)", x.count(1), 0);
            BlinkMesh full = Whole.busy();
            full.keep();
            SAYS.due("count(12) behind keep()", full.count(12), 4);
            for (int undo = 0; undo < 4; undo++) {
                full.undo();
            }
            SAYS.dueSame("the oldest state behind keep()", Whole.state(full), Whole.state(withoutHistory()));
        });
    }

    private static void restoreBrings() {
        SAYS.holds(14, "Restores the state of the snapshot, which stays.", () -> {
            BlinkMesh x = Whole.busy();
            x.restore();
            List<Integer> kept = Whole.state(x);
            x.pass(50);
            x.goAway(1);
            x.set(0, 20);
            SAYS.due("restore() again", x.restore(), 4);
            SAYS.dueSame("the state of the snapshot", Whole.state(x), kept);
        });
        SAYS.holds(14, ACT, () -> {
            Whole.isRecorded(SAYS, Whole::busy, "restore()", x -> x.restore());
            Whole.isRecorded(SAYS, HistoryBoundsTest::keptNow, "restore() of what is so already", x -> x.restore());
        });
    }

    private static BlinkMesh keptNow() {
        BlinkMesh x = Whole.calm();
        x.keep();
        return x;
    }

    private static void restoreAnswers() {
        SAYS.holds(14, "Returns how many lamps there are then; NONE if there is no snapshot.", () -> {
            SAYS.due("restore() without a snapshot", Whole.calm().restore(), NONE);
            BlinkMesh none = new BlinkMesh();
            none.keep();
            none.come(5, 100);
            SAYS.due("restore() of no lamps", none.restore(), 0);
            SAYS.due("count(1)", none.count(1), 0);
            BlinkMesh x = Due.sixteen();
            x.keep();
            x.goAway(0);
            x.turn(1, false);
            SAYS.due("restore() of sixteen", x.restore(), 16);
            SAYS.due("count(2)", x.count(2), 16);
            SAYS.due("restore() of what is so already", x.restore(), 16);
            BlinkMesh out = Due.mesh("5,6");
            out.turn(0, false);
            out.keep();
            SAYS.due("restore() of two, one of them out", out.restore(), 2);
            SAYS.due("count(2)", out.count(2), 1);
        });
        SAYS.holds(14, NOTHING, () -> {
            Whole.isLeft(SAYS, BlinkMesh::new, "restore()", x -> x.restore(), NONE);
            Whole.isLeft(SAYS, Whole::calm, "restore()", x -> x.restore(), NONE);
        });
    }

    private static void whatRestoreLeaves() {
        SAYS.holds(14, STATE, () -> {
            BlinkMesh x = new BlinkMesh();
            x.type('5');
            x.keep();
            x.type('6');
            x.come(5, 100);
            x.set(0, 30);
            x.pass(40);
            x.restore();
            SAYS.due("count(13), the text stays", x.count(13), 2);
            SAYS.due("count(12), the history stays", x.count(12), 4);
            SAYS.due("count(0)", x.count(0), 0);
            SAYS.due("count(5)", x.count(5), 0);
            SAYS.due("count(9)", x.count(9), 100);
            x.undo();
            SAYS.due("count(0) behind undo()", x.count(0), 40);
            SAYS.due("count(9) behind undo()", x.count(9), 30);
        });
        SAYS.holds(14, "A history of at most 4 states is kept; when one more is recorded, the oldest one is dropped", () -> {
            BlinkMesh x = Whole.busy();
            x.restore();
            SAYS.due("count(12)", x.count(12), 4);
            for (int left = 3; left >= 0; left--) {
                SAYS.due("undo()", x.undo(), left);
            }
            SAYS.due("undo() of no more", x.undo(), NONE);
        });
    }
}
