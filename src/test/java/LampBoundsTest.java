/** Promises 1 to 7, sentence by sentence: a new object, and the acts on lamps, links and settings. */
public final class LampBoundsTest {
    private static final Sentences SAYS = new Sentences("LampBoundsTest");
    private static final int UNKNOWN = -1;
    private static final int BAD_VALUE = -2;
    private static final int FULL = -3;
    private static final int NONE = -5;
    private static final int MIN = Integer.MIN_VALUE;
    private static final int MAX = Integer.MAX_VALUE;
    // No lamp has one of these numbers where the lamps 0 to 3 are there.
    private static final int[] NO_LAMPS = {MIN, -32, -16, -1, 4, 5, 15, 16, 17, 31, 32, 33, 64, MAX};

    private static final String ACT = "Each call of a method that is described as an act, and returns no error and not "
        + "NONE, records the state that was before it.";
    private static final String ORDER = "Where several errors can apply, the order of the @return line is the order of "
        + "the checks.";
    private static final String NOTHING = "A call that returns an error or NONE changes nothing.";

    public static void main(String[] args) {
        newObject();
        firstValues();
        constants();
        comeArguments();
        comeNumbers();
        comeAsNew();
        comeRefused();
        goAway();
        goAwayLinks();
        turn();
        turnKeeps();
        link();
        linkAnswers();
        tune();
        tuneAnswers();
        setRanges();
        setAnswers();
        setPeriod();
        SAYS.end();
    }

    private static void newObject() {
        SAYS.holds(1, "Creates a mesh without lamps, at the tick 0.", () -> {
            Whole.busy();
            BlinkMesh x = new BlinkMesh();
            for (int what = 0; what <= 8; what++) {
                SAYS.due("count(" + what + ")", x.count(what), 0);
            }
            for (int lamp = 0; lamp < 16; lamp++) {
                SAYS.due("lamp(" + lamp + ", 0)", x.lamp(lamp, 0), UNKNOWN);
            }
        });
        SAYS.holds(1, "An object is used for at most 512 calls after it has been made", () -> {
            BlinkMesh x = new BlinkMesh();
            for (int call = 1; call <= 510; call++) {
                SAYS.due("pass(1), call " + call, x.pass(1), 0);
            }
            SAYS.due("undo(), call 511", x.undo(), 3);
            SAYS.due("count(0), call 512", x.count(0), 509);
        });
        SAYS.holds(1, "There is a text of at most 60 characters, empty at first.", () -> {
            SAYS.due("count(13)", new BlinkMesh().count(13), 0);
            SAYS.due("clearText()", new BlinkMesh().clearText(), 0);
            SAYS.due("readMesh()", new BlinkMesh().readMesh(), -100);
            SAYS.due("type('5')", new BlinkMesh().type('5'), 1);
        });
        SAYS.holds(1, "There is one snapshot, empty at first.", () ->
            SAYS.due("restore()", new BlinkMesh().restore(), NONE));
        SAYS.holds(1, "A history of at most 4 states is kept", () -> {
            SAYS.due("count(12)", new BlinkMesh().count(12), 0);
            SAYS.due("undo()", new BlinkMesh().undo(), NONE);
        });
    }

    private static void firstValues() {
        SAYS.holds(1, "0: the period (10 to 200 ticks; 100)", () -> {
            SAYS.due("count(9)", new BlinkMesh().count(9), 100);
            BlinkMesh x = new BlinkMesh();
            x.come(0, 100);
            SAYS.due("pass(99)", x.pass(99), 0);
            SAYS.due("pass(1)", x.pass(1), 1);
        });
        SAYS.holds(1, "1: the push (0 to 100; 10)", () -> {
            SAYS.due("count(10)", new BlinkMesh().count(10), 10);
            BlinkMesh x = new BlinkMesh();
            x.come(99, 100);
            x.come(49, 100);
            x.link(0, 1, true);
            x.pass(1);
            SAYS.due("lamp(1, 0)", x.lamp(1, 0), 5500);
        });
        SAYS.holds(1, "2: the deaf ticks (0 to 99; 2)", () -> {
            SAYS.due("count(11)", new BlinkMesh().count(11), 2);
            BlinkMesh x = new BlinkMesh();
            x.come(99, 100);
            x.pass(1);
            SAYS.due("lamp(0, 3)", x.lamp(0, 3), 2);
        });
    }

    private static void constants() {
        SAYS.holds(3, "`UNKNOWN = -1`: There is no such lamp or setting.", () -> {
            SAYS.due("UNKNOWN", BlinkMesh.UNKNOWN, -1);
            SAYS.due("goAway(0)", new BlinkMesh().goAway(0), -1);
            SAYS.due("set(3, 50)", new BlinkMesh().set(3, 50), -1);
        });
        SAYS.holds(2, "`BAD_VALUE = -2`: Another argument is out of range.", () -> {
            SAYS.due("BAD_VALUE", BlinkMesh.BAD_VALUE, -2);
            SAYS.due("come(100, 100)", new BlinkMesh().come(100, 100), -2);
        });
        SAYS.holds(2, "`FULL = -3`: There is no more room.", () -> {
            SAYS.due("FULL", BlinkMesh.FULL, -3);
            SAYS.due("come(0, 100) to sixteen", Due.sixteen().come(0, 100), -3);
        });
        SAYS.holds(4, "`NONE = -5`: There is no such thing; not an error.", () -> {
            SAYS.due("NONE", BlinkMesh.NONE, -5);
            SAYS.due("turn(0, true)", Due.mesh("5").turn(0, true), -5);
        });
    }

    private static void comeArguments() {
        SAYS.holds(2, "`phase`: 0 to the period less 1: its phase in whole ticks", () -> {
            int[][] periods = {{10, 9}, {100, 99}, {200, 199}};
            for (int[] period : periods) {
                BlinkMesh x = new BlinkMesh();
                x.set(0, period[0]);
                SAYS.due("come(-1, 100)", x.come(-1, 100), BAD_VALUE);
                SAYS.due("come(" + period[0] + ", 100)", x.come(period[0], 100), BAD_VALUE);
                SAYS.due("come(0, 100)", x.come(0, 100), 0);
                SAYS.due("come(" + period[1] + ", 100)", x.come(period[1], 100), 1);
                SAYS.due("lamp(0, 0)", x.lamp(0, 0), 0);
                SAYS.due("lamp(1, 0)", x.lamp(1, 0), period[1] * 100);
            }
            // A hundred times 42949673 is 4 to an int.
            int[] far = {MIN, -42949672, 42949673, MAX};
            for (int phase : far) {
                SAYS.due("come(" + phase + ", 100)", new BlinkMesh().come(phase, 100), BAD_VALUE);
            }
        });
        SAYS.holds(2, "`rate`: 50 to 150", () -> {
            BlinkMesh x = new BlinkMesh();
            int[] out = {MIN, -100, 0, 49, 151, MAX};
            for (int rate : out) {
                SAYS.due("come(0, " + rate + ")", x.come(0, rate), BAD_VALUE);
            }
            SAYS.due("come(0, 50)", x.come(0, 50), 0);
            SAYS.due("come(0, 150)", x.come(0, 150), 1);
            SAYS.due("lamp(0, 1)", x.lamp(0, 1), 50);
            SAYS.due("lamp(1, 1)", x.lamp(1, 1), 150);
        });
    }

    private static void comeNumbers() {
        SAYS.holds(2, "There are at most 16 lamps, 0 to 15", () -> {
            BlinkMesh x = new BlinkMesh();
            for (int lamp = 0; lamp <= 15; lamp++) {
                SAYS.due("come(" + lamp + ", 100)", x.come(lamp, 100), lamp);
            }
            SAYS.due("come(16, 100)", x.come(16, 100), FULL);
            SAYS.due("count(1)", x.count(1), 16);
            SAYS.due("lamp(0, 0)", x.lamp(0, 0), 0);
            SAYS.due("lamp(15, 0)", x.lamp(15, 0), 1500);
        });
        SAYS.holds(2, "a new one gets the lowest number that none has", () -> {
            BlinkMesh x = Due.sixteen();
            x.goAway(15);
            x.goAway(0);
            x.goAway(7);
            SAYS.due("come", x.come(50, 100), 0);
            SAYS.due("come", x.come(50, 100), 7);
            x.turn(3, false);
            SAYS.due("come, while 3 is out", x.come(50, 100), 15);
        });
        SAYS.holds(2, "Returns its number; BAD_VALUE; FULL if there are 16.", () -> {
            BlinkMesh x = Due.sixteen();
            x.goAway(4);
            SAYS.due("come as the 16th", x.come(0, 100), 4);
            SAYS.due("come as the 17th", x.come(0, 100), FULL);
            SAYS.due("come(100, 100)", Due.mesh("5").come(100, 100), BAD_VALUE);
            x.turn(4, false);
            SAYS.due("come, while one of 16 is out", x.come(0, 100), FULL);
            x.goAway(15);
            SAYS.due("come behind goAway(15)", x.come(0, 100), 15);
        });
    }

    private static void comeAsNew() {
        SAYS.holds(2, "A lamp comes, on, without links.", () -> {
            BlinkMesh x = Due.mesh("1,2,3;ab,bc");
            SAYS.due("come", x.come(4, 100), 3);
            SAYS.due("lamp(3, 2)", x.lamp(3, 2), 1);
            SAYS.due("lamp(3, 6)", x.lamp(3, 6), 0);
            x.turn(1, false);
            x.goAway(1);
            SAYS.due("come, in place of one that was out and linked", x.come(4, 100), 1);
            SAYS.due("lamp(1, 2)", x.lamp(1, 2), 1);
            SAYS.due("lamp(1, 6)", x.lamp(1, 6), 0);
            SAYS.due("count(2)", x.count(2), 4);
            SAYS.due("count(3)", x.count(3), 0);
        });
        SAYS.holds(2, "ticks for which it is deaf still (0 at first)", () -> {
            BlinkMesh x = Due.mesh("99");
            x.pass(1);
            SAYS.due("lamp(0, 3)", x.lamp(0, 3), 2);
            x.goAway(0);
            x.come(99, 100);
            SAYS.due("lamp(0, 3) of a new one", x.lamp(0, 3), 0);
        });
    }

    private static void comeRefused() {
        SAYS.holds(2, ORDER, () -> {
            SAYS.due("come(-1, 100) to sixteen", Due.sixteen().come(-1, 100), BAD_VALUE);
            SAYS.due("come(100, 100) to sixteen", Due.sixteen().come(100, 100), BAD_VALUE);
            SAYS.due("come(0, 49) to sixteen", Due.sixteen().come(0, 49), BAD_VALUE);
            SAYS.due("come(0, 151) to sixteen", Due.sixteen().come(0, 151), BAD_VALUE);
        });
        SAYS.holds(2, NOTHING, () -> {
            Whole.isLeft(SAYS, Whole::busy, "come(100, 100)", x -> x.come(100, 100), BAD_VALUE);
            Whole.isLeft(SAYS, Whole::busy, "come(5, 151)", x -> x.come(5, 151), BAD_VALUE);
            Whole.isLeft(SAYS, Due::sixteen, "come(5, 100)", x -> x.come(5, 100), FULL);
        });
        SAYS.holds(2, ACT, () -> {
            Whole.isRecorded(SAYS, BlinkMesh::new, "come", x -> x.come(5, 100));
            Whole.isRecorded(SAYS, Whole::calm, "come", x -> x.come(5, 100));
            Whole.isRecorded(SAYS, Whole::busy, "come", x -> x.come(5, 100));
        });
    }

    private static void goAway() {
        SAYS.holds(3, "`lamp`: a lamp", () -> {
            for (int lamp : NO_LAMPS) {
                SAYS.due("goAway(" + lamp + ")", Whole.busy().goAway(lamp), UNKNOWN);
            }
            BlinkMesh x = Due.sixteen();
            SAYS.due("goAway(16)", x.goAway(16), UNKNOWN);
            SAYS.due("goAway(15)", x.goAway(15), 0);
            SAYS.due("goAway(15) again", x.goAway(15), UNKNOWN);
            SAYS.due("goAway(0)", x.goAway(0), 0);
            SAYS.due("goAway(0) again", x.goAway(0), UNKNOWN);
            SAYS.due("count(1)", x.count(1), 14);
            SAYS.due("goAway(0) of no lamps", new BlinkMesh().goAway(0), UNKNOWN);
        });
        SAYS.holds(3, NOTHING, () -> {
            Whole.isLeft(SAYS, Whole::busy, "goAway(4)", x -> x.goAway(4), UNKNOWN);
            Whole.isLeft(SAYS, Whole::busy, "goAway(-1)", x -> x.goAway(-1), UNKNOWN);
        });
        SAYS.holds(3, ACT, () -> {
            Whole.isRecorded(SAYS, Whole::calm, "goAway(0)", x -> x.goAway(0));
            Whole.isRecorded(SAYS, Whole::busy, "goAway(1)", x -> x.goAway(1));
            Whole.isRecorded(SAYS, Whole::busy, "goAway(3)", x -> x.goAway(3));
        });
    }

    private static void goAwayLinks() {
        SAYS.holds(3, "Returns how many links it had; UNKNOWN.", () -> {
            SAYS.due("goAway of one without links", Whole.calm().goAway(0), 0);
            SAYS.due("goAway of one with a link", Due.mesh("1,2,3;ab").goAway(1), 1);
            BlinkMesh x = allLinked();
            for (int lamp = 0; lamp <= 15; lamp++) {
                SAYS.due("goAway(" + lamp + ")", x.goAway(lamp), 15 - lamp);
            }
            SAYS.due("goAway(15) again", x.goAway(15), UNKNOWN);
            BlinkMesh out = Due.mesh("1,2,3;ab,bc");
            out.turn(1, false);
            out.turn(0, false);
            SAYS.due("goAway of one that is out", out.goAway(1), 2);
        });
        SAYS.holds(3, "A lamp that goes away loses its links.", () -> {
            BlinkMesh x = Due.mesh("1,2,3;ab,bc,ac");
            x.goAway(1);
            SAYS.due("lamp(0, 6)", x.lamp(0, 6), 4);
            SAYS.due("lamp(2, 6)", x.lamp(2, 6), 1);
            SAYS.due("count(3)", x.count(3), 1);
            x.come(5, 100);
            SAYS.due("lamp(1, 6) of a new one", x.lamp(1, 6), 0);
            SAYS.due("link(0, 1, true)", x.link(0, 1, true), 2);
            x.goAway(2);
            SAYS.due("count(3) without the highest", x.count(3), 1);
            x.goAway(0);
            SAYS.due("count(3) without the lowest", x.count(3), 0);
            x.goAway(1);
            SAYS.due("count(1) without the last one", x.count(1), 0);
            SAYS.due("count(2) without the last one", x.count(2), 0);
        });
    }

    private static BlinkMesh allLinked() {
        BlinkMesh x = Due.sixteen();
        for (int one = 0; one <= 15; one++) {
            for (int other = one + 1; other <= 15; other++) {
                x.link(one, other, true);
            }
        }
        return x;
    }

    private static void turn() {
        SAYS.holds(4, "`lamp`: a lamp", () -> {
            for (int lamp : NO_LAMPS) {
                SAYS.due("turn(" + lamp + ", true)", Whole.busy().turn(lamp, true), UNKNOWN);
                SAYS.due("turn(" + lamp + ", false)", Whole.busy().turn(lamp, false), UNKNOWN);
            }
            SAYS.due("turn(0, false) of sixteen", Due.sixteen().turn(0, false), 15);
            SAYS.due("turn(15, false) of sixteen", Due.sixteen().turn(15, false), 15);
            SAYS.due("turn(16, false) of sixteen", Due.sixteen().turn(16, false), UNKNOWN);
        });
        SAYS.holds(4, "Returns how many are on then; UNKNOWN; NONE if it is so already.", () -> {
            BlinkMesh x = Due.sixteen();
            SAYS.due("turn(0, true) of one that is on", x.turn(0, true), NONE);
            for (int lamp = 0; lamp <= 15; lamp++) {
                SAYS.due("turn(" + lamp + ", false)", x.turn(lamp, false), 15 - lamp);
            }
            SAYS.due("turn(15, false) of one that is out", x.turn(15, false), NONE);
            SAYS.due("turn(16, false)", x.turn(16, false), UNKNOWN);
            for (int lamp = 15; lamp >= 0; lamp--) {
                SAYS.due("turn(" + lamp + ", true)", x.turn(lamp, true), 16 - lamp);
            }
        });
        SAYS.holds(4, "`on`: whether it is on then", () -> {
            BlinkMesh x = Due.mesh("1,2");
            x.turn(1, false);
            SAYS.due("lamp(1, 2)", x.lamp(1, 2), 0);
            SAYS.due("lamp(0, 2)", x.lamp(0, 2), 1);
            x.turn(1, true);
            SAYS.due("lamp(1, 2)", x.lamp(1, 2), 1);
        });
    }

    private static void turnKeeps() {
        SAYS.holds(4, "One that is out keeps its phase, and for how long it is deaf.", () -> {
            BlinkMesh x = Due.mesh("99,98,20*70;ac,bc");
            x.set(2, 99);
            x.pass(2);
            x.turn(0, false);
            x.turn(1, false);
            x.turn(2, false);
            int phase = x.lamp(2, 0);
            x.pass(999);
            SAYS.due("lamp(0, 0)", x.lamp(0, 0), 100);
            SAYS.due("lamp(1, 0)", x.lamp(1, 0), 0);
            SAYS.due("lamp(2, 0)", x.lamp(2, 0), phase);
            SAYS.due("lamp(0, 3)", x.lamp(0, 3), 98);
            SAYS.due("lamp(1, 3)", x.lamp(1, 3), 99);
            x.turn(0, true);
            SAYS.due("lamp(0, 0), on again", x.lamp(0, 0), 100);
            SAYS.due("lamp(0, 3), on again", x.lamp(0, 3), 98);
            x.pass(1);
            SAYS.due("lamp(0, 0), a tick later", x.lamp(0, 0), 200);
            SAYS.due("lamp(0, 3), a tick later", x.lamp(0, 3), 97);
            SAYS.due("lamp(1, 3), out still", x.lamp(1, 3), 99);
        });
        SAYS.holds(4, NOTHING, () -> {
            Whole.isLeft(SAYS, Whole::busy, "turn(4, true)", x -> x.turn(4, true), UNKNOWN);
            Whole.isLeft(SAYS, Whole::busy, "turn(0, true)", x -> x.turn(0, true), NONE);
            Whole.isLeft(SAYS, Whole::busy, "turn(3, false)", x -> x.turn(3, false), NONE);
        });
        SAYS.holds(4, ACT, () -> {
            Whole.isRecorded(SAYS, Whole::calm, "turn(1, false)", x -> x.turn(1, false));
            Whole.isRecorded(SAYS, Whole::busy, "turn(0, false)", x -> x.turn(0, false));
            Whole.isRecorded(SAYS, Whole::busy, "turn(3, true)", x -> x.turn(3, true));
        });
    }

    private static void link() {
        SAYS.holds(5, "`one`: a lamp", () -> {
            for (int one : NO_LAMPS) {
                SAYS.due("link(" + one + ", 0, true)", Whole.busy().link(one, 0, true), UNKNOWN);
            }
            SAYS.due("link(15, 0, true) of sixteen", Due.sixteen().link(15, 0, true), 1);
            SAYS.due("link(16, 0, true) of sixteen", Due.sixteen().link(16, 0, true), UNKNOWN);
        });
        SAYS.holds(5, "`other`: another one", () -> {
            for (int other : NO_LAMPS) {
                SAYS.due("link(0, " + other + ", true)", Whole.busy().link(0, other, true), UNKNOWN);
            }
            SAYS.due("link(0, 15, true) of sixteen", Due.sixteen().link(0, 15, true), 1);
            SAYS.due("link(0, 16, true) of sixteen", Due.sixteen().link(0, 16, true), UNKNOWN);
            SAYS.due("link(0, 0, true)", Whole.busy().link(0, 0, true), BAD_VALUE);
            SAYS.due("link(15, 15, true) of sixteen", Due.sixteen().link(15, 15, true), BAD_VALUE);
        });
        SAYS.holds(5, "Two lamps can be linked; links have no direction.", () -> {
            BlinkMesh x = Due.mesh("1,2,3");
            x.link(2, 0, true);
            SAYS.due("lamp(0, 6)", x.lamp(0, 6), 4);
            SAYS.due("lamp(2, 6)", x.lamp(2, 6), 1);
            SAYS.due("link(0, 2, true)", x.link(0, 2, true), NONE);
            SAYS.due("link(0, 2, false)", x.link(0, 2, false), 0);
            SAYS.due("lamp(0, 6)", x.lamp(0, 6), 0);
            SAYS.due("lamp(2, 6)", x.lamp(2, 6), 0);
            SAYS.due("link(2, 0, false)", x.link(2, 0, false), NONE);
        });
        SAYS.holds(5, ORDER, () -> {
            SAYS.due("link(4, 4, true), also both the same", Whole.busy().link(4, 4, true), UNKNOWN);
            SAYS.due("link(-1, -1, false), also both the same", Whole.busy().link(-1, -1, false), UNKNOWN);
            SAYS.due("link(0, 4, false), also so already", Whole.busy().link(0, 4, false), UNKNOWN);
            SAYS.due("link(4, 0, false), also so already", Whole.busy().link(4, 0, false), UNKNOWN);
        });
        SAYS.holds(5, "NONE is no error; it is returned only if no error applies.", () -> {
            SAYS.due("link(0, 0, false), also so already", Whole.busy().link(0, 0, false), BAD_VALUE);
            SAYS.due("link(3, 3, false), of one that is out", Whole.busy().link(3, 3, false), BAD_VALUE);
        });
    }

    private static void linkAnswers() {
        SAYS.holds(5, "Returns how many links there are then; UNKNOWN (one or other); BAD_VALUE if both are the same; NONE "
            + "if it is so already.", () -> {
                BlinkMesh x = Due.sixteen();
                int links = 0;
                for (int one = 0; one <= 15; one++) {
                    for (int other = one + 1; other <= 15; other++) {
                        links++;
                        SAYS.due("link(" + one + ", " + other + ", true)", x.link(one, other, true), links);
                    }
                }
                SAYS.due("link(14, 15, true), the 120th, again", x.link(14, 15, true), NONE);
                SAYS.due("link(15, 14, false)", x.link(15, 14, false), 119);
                SAYS.due("link(15, 14, false) again", x.link(15, 14, false), NONE);
                BlinkMesh y = Due.mesh("1,2;ab");
                SAYS.due("link(0, 1, false) of the only one", y.link(0, 1, false), 0);
                SAYS.due("link(0, 2, true)", y.link(0, 2, true), UNKNOWN);
                SAYS.due("link(2, 0, true)", y.link(2, 0, true), UNKNOWN);
                SAYS.due("link(1, 1, true)", y.link(1, 1, true), BAD_VALUE);
                y.turn(0, false);
                SAYS.due("link(0, 1, true) with one that is out", y.link(0, 1, true), 1);
            });
        SAYS.holds(5, NOTHING, () -> {
            Whole.isLeft(SAYS, Whole::busy, "link(0, 4, true)", x -> x.link(0, 4, true), UNKNOWN);
            Whole.isLeft(SAYS, Whole::busy, "link(4, 0, true)", x -> x.link(4, 0, true), UNKNOWN);
            Whole.isLeft(SAYS, Whole::busy, "link(1, 1, true)", x -> x.link(1, 1, true), BAD_VALUE);
            Whole.isLeft(SAYS, Whole::busy, "link(1, 0, true)", x -> x.link(1, 0, true), NONE);
            Whole.isLeft(SAYS, Whole::busy, "link(0, 2, false)", x -> x.link(0, 2, false), NONE);
        });
        SAYS.holds(5, ACT, () -> {
            Whole.isRecorded(SAYS, Whole::calm, "link(0, 1, true)", x -> x.link(0, 1, true));
            Whole.isRecorded(SAYS, Whole::busy, "link(0, 3, true)", x -> x.link(0, 3, true));
            Whole.isRecorded(SAYS, Whole::busy, "link(0, 1, false)", x -> x.link(0, 1, false));
        });
    }

    private static void tune() {
        SAYS.holds(6, "`lamp`: a lamp", () -> {
            for (int lamp : NO_LAMPS) {
                SAYS.due("tune(" + lamp + ", 0, 100)", Whole.busy().tune(lamp, 0, 100), UNKNOWN);
            }
            SAYS.due("tune(0, 9, 100) of sixteen", Due.sixteen().tune(0, 9, 100), 0);
            SAYS.due("tune(15, 9, 100) of sixteen", Due.sixteen().tune(15, 9, 100), 1500);
            SAYS.due("tune(16, 9, 100) of sixteen", Due.sixteen().tune(16, 9, 100), UNKNOWN);
        });
        SAYS.holds(6, "`phase`: 0 to the period less 1, in whole ticks", () -> {
            int[][] periods = {{10, 9}, {100, 99}, {200, 199}};
            for (int[] period : periods) {
                BlinkMesh x = Due.mesh("5");
                x.set(0, period[0]);
                SAYS.due("tune(0, -1, 100)", x.tune(0, -1, 100), BAD_VALUE);
                SAYS.due("tune(0, " + period[0] + ", 100)", x.tune(0, period[0], 100), BAD_VALUE);
                SAYS.due("tune(0, 0, 100)", x.tune(0, 0, 100), 500);
                SAYS.due("lamp(0, 0)", x.lamp(0, 0), 0);
                SAYS.due("tune(0, " + period[1] + ", 100)", x.tune(0, period[1], 100), 0);
                SAYS.due("lamp(0, 0)", x.lamp(0, 0), period[1] * 100);
            }
            int[] far = {MIN, -42949672, 42949673, MAX};
            for (int phase : far) {
                SAYS.due("tune(0, " + phase + ", 100)", Due.mesh("5").tune(0, phase, 100), BAD_VALUE);
            }
        });
        SAYS.holds(6, "`rate`: 50 to 150", () -> {
            BlinkMesh x = Due.mesh("5");
            int[] out = {MIN, -100, 0, 49, 151, MAX};
            for (int rate : out) {
                SAYS.due("tune(0, 5, " + rate + ")", x.tune(0, 5, rate), BAD_VALUE);
            }
            SAYS.due("tune(0, 5, 50)", x.tune(0, 5, 50), 500);
            SAYS.due("lamp(0, 1)", x.lamp(0, 1), 50);
            SAYS.due("tune(0, 5, 150)", x.tune(0, 5, 150), 500);
            SAYS.due("lamp(0, 1)", x.lamp(0, 1), 150);
        });
    }

    private static void tuneAnswers() {
        SAYS.holds(6, "Returns the previous phase, in hundredths; UNKNOWN; BAD_VALUE.", () -> {
            BlinkMesh x = Due.mesh("0*51,100,7");
            x.pass(1);
            SAYS.due("tune(0, 3, 100), before at 0.51", x.tune(0, 3, 100), 51);
            SAYS.due("tune(0, 3, 100) again", x.tune(0, 3, 100), 300);
            SAYS.due("tune(1, 3, 100), before at 0", x.tune(1, 3, 100), 0);
            SAYS.due("tune(0, 5, 100), before at the greatest", Due.mesh("100").tune(0, 5, 100), 9999);
            x.turn(2, false);
            SAYS.due("tune(2, 3, 100) of one that is out", x.tune(2, 3, 100), 800);
            SAYS.due("tune(3, 3, 100)", x.tune(3, 3, 100), UNKNOWN);
            SAYS.due("tune(2, 100, 100)", x.tune(2, 100, 100), BAD_VALUE);
        });
        SAYS.holds(6, "Sets the phase and the rate of a lamp.", () -> {
            BlinkMesh x = Whole.busy();
            int[] stays = new int[10];
            for (int what = 2; what < 10; what++) {
                stays[what] = x.lamp(0, what);
            }
            x.tune(0, 77, 150);
            SAYS.due("lamp(0, 0)", x.lamp(0, 0), 7700);
            SAYS.due("lamp(0, 1)", x.lamp(0, 1), 150);
            for (int what = 2; what < 8; what++) {
                SAYS.due("lamp(0, " + what + "), which stays", x.lamp(0, what), stays[what]);
            }
            SAYS.due("lamp(0, 9), which stays", x.lamp(0, 9), stays[9]);
        });
        SAYS.holds(6, ORDER, () -> {
            SAYS.due("tune(4, -1, 100)", Whole.busy().tune(4, -1, 100), UNKNOWN);
            SAYS.due("tune(4, 100, 100)", Whole.busy().tune(4, 100, 100), UNKNOWN);
            SAYS.due("tune(-1, 5, 49)", Whole.busy().tune(-1, 5, 49), UNKNOWN);
            SAYS.due("tune(-1, 5, 151)", Whole.busy().tune(-1, 5, 151), UNKNOWN);
        });
        SAYS.holds(6, NOTHING, () -> {
            Whole.isLeft(SAYS, Whole::busy, "tune(4, 5, 100)", x -> x.tune(4, 5, 100), UNKNOWN);
            Whole.isLeft(SAYS, Whole::busy, "tune(0, 100, 90)", x -> x.tune(0, 100, 90), BAD_VALUE);
            Whole.isLeft(SAYS, Whole::busy, "tune(0, 5, 151)", x -> x.tune(0, 5, 151), BAD_VALUE);
        });
        SAYS.holds(6, ACT, () -> {
            Whole.isRecorded(SAYS, Whole::calm, "tune(0, 98, 100), as it is", x -> x.tune(0, 98, 100));
            Whole.isRecorded(SAYS, Whole::busy, "tune(0, 5, 90)", x -> x.tune(0, 5, 90));
            Whole.isRecorded(SAYS, Whole::busy, "tune(3, 5, 90)", x -> x.tune(3, 5, 90));
        });
    }

    private static void setRanges() {
        SAYS.holds(7, "`which`: 0 to 2", () -> {
            int[] out = {MIN, -1, 3, 4, MAX};
            for (int which : out) {
                SAYS.due("set(" + which + ", 50)", new BlinkMesh().set(which, 50), UNKNOWN);
            }
            SAYS.due("set(0, 50)", new BlinkMesh().set(0, 50), 100);
            SAYS.due("set(2, 50)", new BlinkMesh().set(2, 50), 2);
        });
        SAYS.holds(7, "0: the period (10 to 200 ticks; 100)", () -> range(0, 10, 200));
        SAYS.holds(7, "1: the push (0 to 100; 10)", () -> range(1, 0, 100));
        SAYS.holds(7, "2: the deaf ticks (0 to 99; 2)", () -> range(2, 0, 99));
    }

    private static void range(int which, int least, int greatest) {
        BlinkMesh x = new BlinkMesh();
        int first = x.count(9 + which);
        int[] out = {MIN, least - 1, greatest + 1, MAX};
        for (int value : out) {
            SAYS.due("set(" + which + ", " + value + ")", x.set(which, value), BAD_VALUE);
        }
        SAYS.due("set(" + which + ", " + least + ")", x.set(which, least), first);
        SAYS.due("count(" + (9 + which) + ")", x.count(9 + which), least);
        SAYS.due("set(" + which + ", " + greatest + ")", x.set(which, greatest), least);
        SAYS.due("count(" + (9 + which) + ")", x.count(9 + which), greatest);
    }

    private static void setAnswers() {
        SAYS.holds(7, "Returns the previous one; UNKNOWN; BAD_VALUE; NONE if it is so already.", () -> {
            BlinkMesh x = new BlinkMesh();
            int[] first = {100, 10, 2};
            for (int which = 0; which <= 2; which++) {
                SAYS.due("set(" + which + ", " + first[which] + ")", x.set(which, first[which]), NONE);
                SAYS.due("set(" + which + ", 11)", x.set(which, 11), first[which]);
                SAYS.due("set(" + which + ", 11) again", x.set(which, 11), NONE);
                SAYS.due("set(" + which + ", 12)", x.set(which, 12), 11);
                SAYS.due("set(" + which + ", 201)", x.set(which, 201), BAD_VALUE);
            }
            SAYS.due("set(3, 12)", x.set(3, 12), UNKNOWN);
            x.set(1, 0);
            SAYS.due("set(1, 0), which is so already", x.set(1, 0), NONE);
            SAYS.due("set(1, 5), before 0", x.set(1, 5), 0);
        });
        SAYS.holds(7, ORDER, () -> {
            SAYS.due("set(-1, -1)", new BlinkMesh().set(-1, -1), UNKNOWN);
            SAYS.due("set(3, 201)", new BlinkMesh().set(3, 201), UNKNOWN);
            SAYS.due("set(MIN, MIN)", new BlinkMesh().set(MIN, MIN), UNKNOWN);
        });
        SAYS.holds(7, NOTHING, () -> {
            Whole.isLeft(SAYS, Whole::busy, "set(3, 5)", x -> x.set(3, 5), UNKNOWN);
            Whole.isLeft(SAYS, Whole::busy, "set(0, 9)", x -> x.set(0, 9), BAD_VALUE);
            Whole.isLeft(SAYS, Whole::busy, "set(1, 101)", x -> x.set(1, 101), BAD_VALUE);
            Whole.isLeft(SAYS, Whole::busy, "set(2, 7)", x -> x.set(2, 7), NONE);
        });
        SAYS.holds(7, ACT, () -> {
            Whole.isRecorded(SAYS, Whole::calm, "set(0, 10)", x -> x.set(0, 10));
            Whole.isRecorded(SAYS, Whole::busy, "set(0, 10)", x -> x.set(0, 10));
            Whole.isRecorded(SAYS, Whole::busy, "set(1, 0)", x -> x.set(1, 0));
            Whole.isRecorded(SAYS, Whole::busy, "set(2, 0)", x -> x.set(2, 0));
        });
    }

    private static void setPeriod() {
        SAYS.holds(7, "If the period becomes less, phases that would be too great become the greatest that is possible.",
            () -> {
                BlinkMesh x = Due.mesh("9*98,9*99,9*100,9*101,99,2,50");
                x.pass(1);
                x.turn(6, false);
                x.set(0, 10);
                int[] due = {998, 999, 999, 999, 0, 300, 999};
                for (int lamp = 0; lamp < due.length; lamp++) {
                    SAYS.due("lamp(" + lamp + ", 0)", x.lamp(lamp, 0), due[lamp]);
                }
                x.set(0, 200);
                for (int lamp = 0; lamp < due.length; lamp++) {
                    SAYS.due("lamp(" + lamp + ", 0), the period greater", x.lamp(lamp, 0), due[lamp]);
                }
                BlinkMesh y = Due.mesh("99");
                y.set(0, 99);
                SAYS.due("lamp(0, 0), a tick less", y.lamp(0, 0), 9899);
                y.set(0, 200);
                y.tune(0, 199, 100);
                y.set(0, 199);
                SAYS.due("lamp(0, 0), 199 for 200", y.lamp(0, 0), 19899);
            });
        SAYS.holds(7, "A lamp has a phase, told in hundredths (0 to 100 times the period, less 1)", () -> {
            BlinkMesh x = Due.mesh("99,0");
            x.set(0, 10);
            SAYS.due("lamp(0, 0), the greatest for the period 10", x.lamp(0, 0), 999);
            SAYS.due("lamp(1, 0), the least", x.lamp(1, 0), 0);
            SAYS.due("pass(1)", x.pass(1), 1);
            SAYS.due("lamp(0, 0), from the greatest to the least", x.lamp(0, 0), 0);
        });
    }
}
