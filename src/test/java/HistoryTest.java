/** Promises 12 to 14: undo and the snapshot. */
public final class HistoryTest {
    private static final Due DUE = new Due("HistoryTest");

    public static void main(String[] args) {
        undoOfEachAct();
        counts();
        fourStates();
        snapshot();
        DUE.end();
    }

    private static void undoOfEachAct() {
        for (int act = 0; act < 8; act++) {
            BlinkMesh x = Due.mesh("99,98,10*70,5;ab,bc");
            x.set(2, 7);
            x.pass(2);
            x.turn(3, false);
            x.keep();
            int[] before = told(x);
            DUE.is("act " + act, act(x, act) >= 0 ? 1 : 0, 1);
            DUE.is("act " + act + " changes something", same(before, told(x)) ? 1 : 0, act == 7 ? 1 : 0);
            DUE.is("undo of act " + act, x.undo(), 3);
            DUE.is("all is as before act " + act, same(before, told(x)) ? 1 : 0, 1);
        }
    }

    private static int act(BlinkMesh x, int act) {
        switch (act) {
            case 0: return x.come(3, 80);
            case 1: return x.goAway(1);
            case 2: return x.turn(0, false);
            case 3: return x.link(0, 2, true);
            case 4: return x.tune(2, 1, 60);
            case 5: return x.set(0, 50);
            case 6: return x.pass(200);
            default: return x.restore();
        }
    }

    /** What is told of the state, with the lamps 0 to 4. */
    private static int[] told(BlinkMesh x) {
        int[] answers = new int[12 + 50];
        for (int what = 0; what < 12; what++) {
            answers[what] = x.count(what);
        }
        for (int at = 0; at < 50; at++) {
            answers[12 + at] = x.lamp(at / 10, at % 10);
        }
        return answers;
    }

    private static boolean same(int[] one, int[] other) {
        return java.util.Arrays.equals(one, other);
    }

    private static void counts() {
        BlinkMesh x = Due.mesh("99,98,90*70;ab,bc");
        int[] before = told(x);
        x.keep();
        x.pass(1);
        for (int what = 5; what <= 8; what++) {
            DUE.is("count(" + what + ") grew", x.count(what) > 0 ? 1 : 0, 1);
        }
        int[] behind = told(x);
        x.restore();
        DUE.is("restore() takes what was counted back", same(before, told(x)) ? 1 : 0, 1);
        x.undo();
        DUE.is("undo() brings what was counted back", same(behind, told(x)) ? 1 : 0, 1);
        x.undo();
        DUE.is("undo() takes what was counted back", same(before, told(x)) ? 1 : 0, 1);
    }

    private static void fourStates() {
        BlinkMesh x = new BlinkMesh();
        DUE.is("undo() of nothing", x.undo(), BlinkMesh.NONE);
        for (int call = 1; call <= 6; call++) {
            x.pass(call);
            DUE.is("states", x.count(12), Math.min(call, 4));
        }
        DUE.is("the tick", x.count(0), 21);
        int[] ticks = {15, 10, 6, 3};
        for (int left = 3; left >= 0; left--) {
            DUE.is("undo()", x.undo(), left);
            DUE.is("the tick", x.count(0), ticks[3 - left]);
        }
        DUE.is("the oldest ones were dropped", x.undo(), BlinkMesh.NONE);
        DUE.is("the tick", x.count(0), 3);
        x.pass(1);
        DUE.is("a state again", x.count(12), 1);
        x.undo();
        DUE.is("the tick", x.count(0), 3);
        DUE.is("undo is no act", x.undo(), BlinkMesh.NONE);
    }

    private static void snapshot() {
        BlinkMesh x = new BlinkMesh();
        DUE.is("restore() without a snapshot", x.restore(), BlinkMesh.NONE);
        DUE.is("keep() of no lamps", x.keep(), 0);
        DUE.is("keep is no act", x.count(12), 0);
        x.come(1, 100);
        DUE.is("restore()", x.restore(), 0);
        DUE.is("restore is an act", x.count(12), 2);
        DUE.is("undo()", x.undo(), 1);
        DUE.is("keep() of one", x.keep(), 1);
        x.type('7');
        x.set(0, 30);
        x.pass(40);
        DUE.is("restore()", x.restore(), 1);
        DUE.is("the tick", x.count(0), 0);
        DUE.is("the period", x.count(9), 100);
        DUE.is("the text stays", x.count(13), 1);
        DUE.is("the history stays", x.count(12), 4);
        x.pass(5);
        DUE.is("the snapshot stays", x.restore(), 1);
        DUE.is("the phase of then", x.lamp(0, 0), 100);
        x.come(2, 100);
        DUE.is("keep() of two", x.keep(), 2);
        x.undo();
        DUE.is("undo leaves the snapshot", x.restore(), 2);
    }
}
