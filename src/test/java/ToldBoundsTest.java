/** Promises 15 to 20, sentence by sentence: what is told of lamps, of what comes next, and of the whole mesh. */
public final class ToldBoundsTest {
    private static final Sentences SAYS = new Sentences("ToldBoundsTest");
    private static final int UNKNOWN = -1;
    private static final int BAD_VALUE = -2;
    private static final int NONE = -5;
    private static final int MIN = Integer.MIN_VALUE;
    private static final int MAX = Integer.MAX_VALUE;
    // No lamp has one of these numbers where the lamps 0 to 3 are there.
    private static final int[] NO_LAMPS = {MIN, -32, -16, -1, 4, 5, 15, 16, 17, 31, 32, 33, 64, MAX};

    private static final String ACT = "Each call of a method that is described as an act, and returns no error and not "
        + "NONE, records the state that was before it.";
    private static final String ORDER = "Where several errors can apply, the order of the @return line is the order of "
        + "the checks.";
    private static final String NOTHING = "A call that returns an error or NONE changes nothing.";
    private static final String NONE_LAST = "NONE is no error; it is returned only if no error applies.";
    private static final String DISTANCE = "The distance of two phases is their difference, or what is left of 100 times "
        + "the period beside it, if that is less.";
    private static final String PIECE = "A piece of the mesh is all lamps that are on and come to each other by links of "
        + "lamps that are on.";
    private static final String TOGETHER = "The whole mesh is together if there is a lamp that is on, and all lamps that "
        + "are on agree.";

    public static void main(String[] args) {
        lampArguments();
        lampRefused();
        lampPhaseAndRate();
        lampBlinks();
        lampLinks();
        lampPiece();
        lampAgrees();
        lampPushes();
        apart();
        apartDistance();
        next();
        nextLamps();
        togetherIn();
        togetherInOrNot();
        reason();
        reasonOrder();
        spread();
        SAYS.end();
    }

    private static BlinkMesh out(BlinkMesh x) {
        for (int lamp = 0; lamp < 16; lamp++) {
            x.turn(lamp, false);
        }
        return x;
    }

    private static void lampArguments() {
        SAYS.holds(15, "`lamp`: a lamp", () -> {
            for (int lamp : NO_LAMPS) {
                SAYS.due("lamp(" + lamp + ", 0)", Whole.busy().lamp(lamp, 0), UNKNOWN);
                SAYS.due("lamp(" + lamp + ", 7)", Whole.busy().lamp(lamp, 7), UNKNOWN);
            }
            BlinkMesh x = Due.sixteen();
            SAYS.due("lamp(0, 0) of sixteen", x.lamp(0, 0), 0);
            SAYS.due("lamp(15, 0) of sixteen", x.lamp(15, 0), 1500);
            SAYS.due("lamp(16, 0) of sixteen", x.lamp(16, 0), UNKNOWN);
            x.goAway(15);
            SAYS.due("lamp(15, 0) of one that went away", x.lamp(15, 0), UNKNOWN);
            SAYS.due("lamp(0, 0) without lamps", new BlinkMesh().lamp(0, 0), UNKNOWN);
        });
        SAYS.holds(15, "Returns the number; UNKNOWN; BAD_VALUE.", () -> {
            int[] bad = {MIN, -1, 10, 11, MAX};
            for (int what : bad) {
                SAYS.due("lamp(0, " + what + ")", Whole.busy().lamp(0, what), BAD_VALUE);
                SAYS.due("lamp(3, " + what + ") of one that is out", Whole.busy().lamp(3, what), BAD_VALUE);
            }
            for (int what = 0; what <= 9; what++) {
                SAYS.due("lamp(0, " + what + ") is a number", Whole.busy().lamp(0, what) >= 0 ? 1 : 0, 1);
            }
        });
    }

    private static void lampRefused() {
        SAYS.holds(15, ORDER, () -> {
            SAYS.due("lamp(4, -1)", Whole.busy().lamp(4, -1), UNKNOWN);
            SAYS.due("lamp(4, 10)", Whole.busy().lamp(4, 10), UNKNOWN);
            SAYS.due("lamp(-1, 10)", Whole.busy().lamp(-1, 10), UNKNOWN);
        });
        SAYS.holds(15, NOTHING, () -> {
            Whole.isLeft(SAYS, Whole::busy, "lamp(4, 0)", x -> x.lamp(4, 0), UNKNOWN);
            Whole.isLeft(SAYS, Whole::busy, "lamp(0, 10)", x -> x.lamp(0, 10), BAD_VALUE);
        });
        SAYS.holds(15, ACT, () -> {
            for (int what = 0; what <= 9; what++) {
                int asked = what;
                Whole.isOnlyTold(SAYS, Whole::busy, "lamp(0, " + what + ")", x -> x.lamp(0, asked));
            }
        });
    }

    private static void lampPhaseAndRate() {
        SAYS.holds(15, "0 for its phase", () -> {
            SAYS.due("lamp(0, 0), the least", Due.mesh("0").lamp(0, 0), 0);
            SAYS.due("lamp(0, 0), the greatest", Due.mesh("199").lamp(0, 0), 9999);
            BlinkMesh x = Due.mesh("3*51");
            x.pass(1);
            SAYS.due("lamp(0, 0), in hundredths", x.lamp(0, 0), 351);
            x.turn(0, false);
            SAYS.due("lamp(0, 0), out", x.lamp(0, 0), 351);
        });
        SAYS.holds(15, "A lamp has a phase, told in hundredths (0 to 100 times the period, less 1)", () -> {
            BlinkMesh x = Due.mesh("98*100,98*101,99*99");
            x.pass(1);
            SAYS.due("lamp(2, 0), the greatest", x.lamp(2, 0), 9999);
            x.pass(1);
            SAYS.due("lamp(0, 0), never 10000", x.lamp(0, 0), 0);
            SAYS.due("lamp(1, 0), never 10002", x.lamp(1, 0), 0);
            SAYS.due("lamp(2, 0), never 10098", x.lamp(2, 0), 0);
        });
        SAYS.holds(15, "1 for its rate", () -> {
            SAYS.due("lamp(0, 1), the least", Due.mesh("7*50").lamp(0, 1), 50);
            SAYS.due("lamp(0, 1), the greatest", Due.mesh("7*150").lamp(0, 1), 150);
            SAYS.due("lamp(0, 1), out", out(Due.mesh("7*60")).lamp(0, 1), 60);
        });
        SAYS.holds(15, "2 for whether it is on (1, otherwise 0)", () -> {
            SAYS.due("lamp(15, 2)", Due.sixteen().lamp(15, 2), 1);
            SAYS.due("lamp(15, 2), out", out(Due.sixteen()).lamp(15, 2), 0);
        });
        SAYS.holds(15, "3 for ticks for which it is deaf still", () -> {
            BlinkMesh x = Due.mesh("98");
            x.set(2, 99);
            x.pass(1);
            SAYS.due("lamp(0, 3) before a blink", x.lamp(0, 3), 0);
            x.pass(1);
            SAYS.due("lamp(0, 3) in the tick of the blink", x.lamp(0, 3), 99);
            x.pass(1);
            SAYS.due("lamp(0, 3), a tick later", x.lamp(0, 3), 98);
            x.pass(97);
            SAYS.due("lamp(0, 3), in the last one", x.lamp(0, 3), 1);
            x.pass(1);
            SAYS.due("lamp(0, 3), no longer", x.lamp(0, 3), 0);
        });
    }

    private static void lampBlinks() {
        SAYS.holds(15, "ticks for which it is deaf still (0 at first)", () -> {
            BlinkMesh x = Due.mesh("99,5");
            SAYS.due("lamp(0, 3) of one that was read", x.lamp(0, 3), 0);
            x.pass(1);
            SAYS.due("lamp(1, 3) of one that has not blinked", x.lamp(1, 3), 0);
            SAYS.due("come", x.come(5, 100), 2);
            SAYS.due("lamp(2, 3) of one that came", x.lamp(2, 3), 0);
        });
        SAYS.holds(15, "4 for its blinks so far", () -> {
            BlinkMesh x = Due.mesh("98,95;ab");
            x.pass(1);
            SAYS.due("lamp(0, 4), none so far", x.lamp(0, 4), 0);
            x.pass(1);
            SAYS.due("lamp(0, 4)", x.lamp(0, 4), 1);
            SAYS.due("lamp(1, 4), set off", x.lamp(1, 4), 1);
            x.pass(100);
            SAYS.due("lamp(0, 4)", x.lamp(0, 4), 2);
            x.goAway(0);
            x.come(5, 100);
            SAYS.due("lamp(0, 4) of a new one", x.lamp(0, 4), 0);
            SAYS.due("lamp(1, 4)", x.lamp(1, 4), 2);
        });
        SAYS.holds(15, "5 for the tick of the latest one, counted from 1 (0 without one)", () -> {
            BlinkMesh x = Due.mesh("99,95,50;ab");
            SAYS.due("lamp(0, 5), without one", x.lamp(0, 5), 0);
            x.pass(1);
            SAYS.due("lamp(0, 5), in the first tick", x.lamp(0, 5), 1);
            SAYS.due("lamp(1, 5), set off in the first tick", x.lamp(1, 5), 1);
            SAYS.due("lamp(2, 5), without one", x.lamp(2, 5), 0);
            x.pass(99);
            SAYS.due("lamp(0, 5), before the next one", x.lamp(0, 5), 1);
            x.pass(1);
            SAYS.due("lamp(0, 5), of two", x.lamp(0, 5), 101);
            BlinkMesh last = new BlinkMesh();
            for (int call = 0; call < 101; call++) {
                last.pass(990);
            }
            last.come(91, 100);
            last.pass(9);
            SAYS.due("lamp(0, 5), in the last tick", last.lamp(0, 5), 99999);
        });
    }

    private static void lampLinks() {
        SAYS.holds(15, "6 for the lamps linked with it, as a set", () -> {
            BlinkMesh x = Due.sixteen();
            SAYS.due("lamp(0, 6), none", x.lamp(0, 6), 0);
            for (int lamp = 1; lamp <= 15; lamp++) {
                x.link(lamp, 0, true);
            }
            SAYS.due("lamp(0, 6), all others", x.lamp(0, 6), 65534);
            SAYS.due("lamp(15, 6)", x.lamp(15, 6), 1);
            x.link(15, 14, true);
            SAYS.due("lamp(15, 6)", x.lamp(15, 6), 1 | 1 << 14);
            SAYS.due("lamp(14, 6)", x.lamp(14, 6), 1 | 1 << 15);
            x.turn(0, false);
            SAYS.due("lamp(0, 6), out", x.lamp(0, 6), 65534);
            SAYS.due("lamp(15, 6), with one that is out", x.lamp(15, 6), 1 | 1 << 14);
        });
    }

    private static void lampPiece() {
        SAYS.holds(15, "7 for the lamps of its piece, as a set (0 if it is out)", () -> {
            BlinkMesh x = Due.mesh("1,2,3;ab");
            SAYS.due("lamp(2, 7), alone", x.lamp(2, 7), 4);
            SAYS.due("lamp(1, 7)", x.lamp(1, 7), 3);
            x.turn(1, false);
            SAYS.due("lamp(1, 7), out", x.lamp(1, 7), 0);
            x.link(0, 2, true);
            x.turn(2, false);
            SAYS.due("lamp(2, 7), out, linked with one that is on", x.lamp(2, 7), 0);
        });
        SAYS.holds(15, PIECE, () -> {
            BlinkMesh x = Due.mesh("1,2,3,4,5,6;ab,bc,cd,ef");
            SAYS.due("lamp(0, 7), by three links", x.lamp(0, 7), 15);
            SAYS.due("lamp(3, 7), by three links", x.lamp(3, 7), 15);
            SAYS.due("lamp(4, 7)", x.lamp(4, 7), 48);
            x.turn(1, false);
            SAYS.due("lamp(0, 7), past one that is out", x.lamp(0, 7), 1);
            SAYS.due("lamp(2, 7), past one that is out", x.lamp(2, 7), 12);
            x.link(0, 3, true);
            SAYS.due("lamp(2, 7), by another way", x.lamp(2, 7), 13);
            BlinkMesh longest = Due.sixteen();
            longest.link(0, 15, true);
            for (int one = 15; one > 1; one--) {
                longest.link(one, one - 1, true);
            }
            SAYS.due("lamp(0, 7), by fifteen links", longest.lamp(0, 7), 65535);
            SAYS.due("lamp(1, 7), by fifteen links", longest.lamp(1, 7), 65535);
        });
    }

    private static void lampAgrees() {
        SAYS.holds(15, "8 for the lamps that agree with it, itself among them, as a set (0 if it is out)", () -> {
            BlinkMesh x = Due.mesh("5,6,5*60");
            SAYS.due("lamp(1, 8), alone", x.lamp(1, 8), 2);
            SAYS.due("lamp(0, 8)", x.lamp(0, 8), 5);
            x.turn(0, false);
            SAYS.due("lamp(0, 8), out", x.lamp(0, 8), 0);
            BlinkMesh all = new BlinkMesh();
            for (int lamp = 0; lamp < 16; lamp++) {
                all.come(5, 100);
            }
            SAYS.due("lamp(15, 8), all", all.lamp(15, 8), 65535);
        });
        SAYS.holds(15, "Two lamps agree if both are on, and have the same phase.", () -> {
            BlinkMesh x = Due.mesh("0*50,0*51,0*50,99*100,0*100");
            x.turn(4, false);
            SAYS.due("lamp(0, 8), where one is out", x.lamp(0, 8), 7);
            x.pass(1);
            SAYS.due("lamp(0, 8), a hundredth apart from lamp 1", x.lamp(0, 8), 5);
            SAYS.due("lamp(1, 8)", x.lamp(1, 8), 2);
            SAYS.due("lamp(3, 8), at 0 as one that is out", x.lamp(3, 8), 8);
            x.turn(4, true);
            SAYS.due("lamp(3, 8), it is on now", x.lamp(3, 8), 24);
        });
    }

    private static void lampPushes() {
        SAYS.holds(15, "9 for how often it was pushed so far", () -> {
            BlinkMesh x = Due.mesh("98,98,10;ac,bc");
            x.pass(1);
            SAYS.due("lamp(2, 9), never", x.lamp(2, 9), 0);
            x.pass(1);
            SAYS.due("lamp(2, 9), by two in a tick", x.lamp(2, 9), 2);
            SAYS.due("lamp(0, 9), which pushed", x.lamp(0, 9), 0);
            x.pass(1);
            SAYS.due("lamp(2, 9), no push more", x.lamp(2, 9), 2);
            x.goAway(2);
            x.come(5, 100);
            SAYS.due("lamp(2, 9) of a new one", x.lamp(2, 9), 0);
        });
    }

    private static void apart() {
        SAYS.holds(16, "`one`: a lamp", () -> {
            for (int one : NO_LAMPS) {
                SAYS.due("apart(" + one + ", 0)", Whole.busy().apart(one, 0), UNKNOWN);
            }
            SAYS.due("apart(15, 0) of sixteen", Due.sixteen().apart(15, 0), 1500);
        });
        SAYS.holds(16, "`other`: a lamp", () -> {
            for (int other : NO_LAMPS) {
                SAYS.due("apart(0, " + other + ")", Whole.busy().apart(0, other), UNKNOWN);
            }
            SAYS.due("apart(0, 15) of sixteen", Due.sixteen().apart(0, 15), 1500);
            SAYS.due("apart(1, 1), the same", Whole.busy().apart(1, 1), 0);
        });
        SAYS.holds(16, "Returns the distance in hundredths; UNKNOWN (one or other).", () -> {
            BlinkMesh x = Due.mesh("3,3,10*60");
            SAYS.due("apart(0, 1), the least", x.apart(0, 1), 0);
            x.pass(1);
            SAYS.due("apart(0, 2)", x.apart(0, 2), 660);
            SAYS.due("apart(0, 3)", x.apart(0, 3), UNKNOWN);
            SAYS.due("apart(3, 0)", x.apart(3, 0), UNKNOWN);
            SAYS.due("apart(3, 3)", x.apart(3, 3), UNKNOWN);
            SAYS.due("apart(0, 0) without lamps", new BlinkMesh().apart(0, 0), UNKNOWN);
        });
        SAYS.holds(16, NOTHING, () -> Whole.isLeft(SAYS, Whole::busy, "apart(0, 4)", x -> x.apart(0, 4), UNKNOWN));
        SAYS.holds(16, ACT, () -> Whole.isOnlyTold(SAYS, Whole::busy, "apart(0, 1)", x -> x.apart(0, 1)));
    }

    private static void apartDistance() {
        SAYS.holds(16, DISTANCE, () -> {
            BlinkMesh x = Due.mesh("0,49*99,49,49*101,99*99");
            x.turn(0, false);
            x.pass(1);
            int[] due = {0, 4999, 5000, 4999, 1};
            for (int lamp = 0; lamp < due.length; lamp++) {
                SAYS.due("apart(0, " + lamp + ")", x.apart(0, lamp), due[lamp]);
                SAYS.due("apart(" + lamp + ", 0)", x.apart(lamp, 0), due[lamp]);
            }
            x.set(0, 200);
            SAYS.due("apart(0, 4) in the period 200", x.apart(0, 4), 9999);
            SAYS.due("apart(0, 3) in the period 200", x.apart(0, 3), 5001);
            BlinkMesh least = Due.mesh("0,4,5,6,9");
            least.set(0, 10);
            int[] leastDue = {0, 400, 500, 400, 100};
            for (int lamp = 0; lamp < leastDue.length; lamp++) {
                SAYS.due("apart(0, " + lamp + ") in the period 10", least.apart(0, lamp), leastDue[lamp]);
            }
        });
        SAYS.holds(16, "Tells the distance of the phases of two lamps, on or out.", () -> {
            BlinkMesh x = Due.mesh("3,10,20");
            x.turn(0, false);
            SAYS.due("apart(0, 1), one is out", x.apart(0, 1), 700);
            SAYS.due("apart(1, 0), one is out", x.apart(1, 0), 700);
            x.turn(1, false);
            SAYS.due("apart(0, 1), both are out", x.apart(0, 1), 700);
        });
    }

    private static void next() {
        SAYS.holds(17, "`what`: 0 for in how many ticks, 1 for these lamps, as a set", () -> {
            int[] bad = {MIN, -1, 2, MAX};
            for (int what : bad) {
                SAYS.due("next(" + what + ")", Whole.busy().next(what), BAD_VALUE);
            }
            SAYS.due("next(0), the least", Due.mesh("99").next(0), 1);
            BlinkMesh x = new BlinkMesh();
            x.set(0, 200);
            x.come(0, 50);
            SAYS.due("next(0), the greatest", x.next(0), 400);
            SAYS.due("next(1), lamp 0 alone", x.next(1), 1);
            SAYS.due("next(1), lamp 15 alone", Due.sixteen().next(1), 1 << 15);
            BlinkMesh all = new BlinkMesh();
            for (int lamp = 0; lamp < 16; lamp++) {
                all.come(5, 100);
            }
            SAYS.due("next(1), all", all.next(1), 65535);
        });
        SAYS.holds(17, "Returns the number; BAD_VALUE; NONE if no lamp is on.", () -> {
            SAYS.due("next(0) without lamps", new BlinkMesh().next(0), NONE);
            SAYS.due("next(1) without lamps", new BlinkMesh().next(1), NONE);
            SAYS.due("next(0), all out", out(Due.sixteen()).next(0), NONE);
            SAYS.due("next(1), all out", out(Due.sixteen()).next(1), NONE);
            BlinkMesh x = out(Due.sixteen());
            x.turn(15, true);
            SAYS.due("next(0), one on", x.next(0), 85);
            SAYS.due("next(1), one on", x.next(1), 1 << 15);
        });
        SAYS.holds(17, NONE_LAST, () -> {
            SAYS.due("next(-1) without lamps", new BlinkMesh().next(-1), BAD_VALUE);
            SAYS.due("next(2) without lamps", new BlinkMesh().next(2), BAD_VALUE);
            SAYS.due("next(2), all out", out(Due.sixteen()).next(2), BAD_VALUE);
        });
        SAYS.holds(17, NOTHING, () -> {
            Whole.isLeft(SAYS, Whole::busy, "next(2)", x -> x.next(2), BAD_VALUE);
            Whole.isLeft(SAYS, () -> out(Whole.calm()), "next(0)", x -> x.next(0), NONE);
        });
        SAYS.holds(17, ACT, () -> {
            Whole.isOnlyTold(SAYS, Whole::busy, "next(0)", x -> x.next(0));
            Whole.isOnlyTold(SAYS, Whole::busy, "next(1)", x -> x.next(1));
        });
    }

    private static void nextLamps() {
        SAYS.holds(17, "Tells the lamps that blink together next, if nothing else is done.", () -> {
            BlinkMesh x = Due.mesh("50,95,88,50,95;bc,cd");
            x.turn(4, false);
            SAYS.due("next(0)", x.next(0), 5);
            SAYS.due("next(1), with what is set off, without what is out", x.next(1), 6);
            SAYS.due("pass(4)", x.pass(4), 0);
            SAYS.due("pass(1)", x.pass(1), 2);
            SAYS.due("next(0), of one that was pushed", x.next(0), 40);
        });
        SAYS.holds(17, "Lamps blink together if they blink in the same tick, in whatever round.", () -> {
            SAYS.due("next(1), three rounds", Due.mesh("99,95,95,20;ab,bc").next(1), 7);
            SAYS.due("next(1), without links", Due.mesh("99,99,98").next(1), 3);
        });
        SAYS.holds(17, "All lamps that are on and whose phase is 100 times the period, or more, blink.", () -> {
            SAYS.due("next(0), just full in one tick", Due.mesh("99").next(0), 1);
            SAYS.due("next(0), a hundredth less in one tick", Due.mesh("99*99").next(0), 2);
            SAYS.due("next(0), just full in two", Due.mesh("98").next(0), 2);
            SAYS.due("next(0), a hundredth less in one and much more in two", Due.mesh("98*150").next(0), 2);
            SAYS.due("next(0), of the greatest phase at the least rate", Due.mesh("199*50").next(0), 1);
            SAYS.due("next(1), one of two just full", Due.mesh("99*99,99").next(1), 2);
        });
    }

    private static void togetherIn() {
        SAYS.holds(18, "Returns how many, 0 if it is now; NONE if it is not within 2000, or no lamp is on.", () -> {
            SAYS.due("togetherIn(), now", Due.mesh("5,5").togetherIn(), 0);
            SAYS.due("togetherIn(), the next tick", Due.mesh("0*150,1*50").togetherIn(), 1);
            SAYS.due("togetherIn(), 1999", Due.meetingIn(1999).togetherIn(), 1999);
            SAYS.due("togetherIn(), 2000", Due.meetingIn(2000).togetherIn(), 2000);
            SAYS.due("togetherIn(), 2001", Due.meetingIn(2001).togetherIn(), NONE);
            SAYS.due("togetherIn(), never", Due.mesh("5,6").togetherIn(), NONE);
            SAYS.due("togetherIn() without lamps", new BlinkMesh().togetherIn(), NONE);
            SAYS.due("togetherIn(), all out", out(Due.mesh("5,5")).togetherIn(), NONE);
        });
        SAYS.holds(18, NOTHING, () -> {
            Whole.isLeft(SAYS, () -> Due.mesh("5,6"), "togetherIn()", x -> x.togetherIn(), NONE);
            Whole.isLeft(SAYS, () -> out(Whole.calm()), "togetherIn()", x -> x.togetherIn(), NONE);
        });
        SAYS.holds(18, ACT, () -> Whole.isOnlyTold(SAYS, Whole::busy, "togetherIn()", x -> x.togetherIn()));
    }

    private static void togetherInOrNot() {
        SAYS.holds(18, TOGETHER, () -> {
            SAYS.due("togetherIn() of one", Due.mesh("5").togetherIn(), 0);
            BlinkMesh x = Due.mesh("5,5,6");
            SAYS.due("togetherIn(), one is apart", x.togetherIn(), NONE);
            x.turn(2, false);
            SAYS.due("togetherIn(), the one apart is out", x.togetherIn(), 0);
            x.turn(0, false);
            SAYS.due("togetherIn(), one is on", x.togetherIn(), 0);
            x.turn(1, false);
            SAYS.due("togetherIn(), none is on", x.togetherIn(), NONE);
            SAYS.due("togetherIn(), unlike rates now at one phase", Due.mesh("5,5*60").togetherIn(), 0);
            SAYS.due("togetherIn(), half of all agree", Due.mesh("5,5,6,6").togetherIn(), NONE);
        });
        SAYS.holds(18, "Tells in how many ticks the whole mesh is together, if nothing else is done.", () -> {
            BlinkMesh x = Due.mesh("95,91;ab");
            SAYS.due("togetherIn()", x.togetherIn(), 5);
            x.pass(4);
            SAYS.due("togetherIn(), four ticks later", x.togetherIn(), 1);
            x.pass(1);
            SAYS.due("togetherIn(), in the tick", x.togetherIn(), 0);
            SAYS.due("togetherIn(), between blinks", Due.mesh("0*150,30").togetherIn(), 60);
        });
    }

    private static void reason() {
        SAYS.holds(19, "Returns 0 if it is together, or nothing of this holds", () -> {
            SAYS.due("reason(), nothing holds", Due.mesh("1,2;ab").reason(), 0);
            BlinkMesh x = Due.mesh("5,5*60");
            x.set(1, 0);
            SAYS.due("reason(), together though 2, 3 and 4 hold", x.reason(), 0);
            x.tune(1, 6, 60);
            SAYS.due("reason(), no longer together", x.reason(), 2);
            BlinkMesh one = Due.mesh("5");
            one.set(1, 0);
            SAYS.due("reason() of one", one.reason(), 0);
        });
        SAYS.holds(19, "1 no lamp is on", () -> {
            SAYS.due("reason() without lamps", new BlinkMesh().reason(), 1);
            SAYS.due("reason(), all out", out(Due.mesh("5,5")).reason(), 1);
            BlinkMesh x = out(Due.mesh("5,6"));
            x.turn(1, true);
            SAYS.due("reason(), one is on", x.reason(), 0);
        });
        SAYS.holds(19, "2 it has several pieces", () -> {
            BlinkMesh x = Due.mesh("5,6,7;ab,bc");
            SAYS.due("reason(), one piece", x.reason(), 0);
            x.turn(1, false);
            SAYS.due("reason(), the one between is out", x.reason(), 2);
            x.turn(2, false);
            SAYS.due("reason(), others are out", x.reason(), 0);
            SAYS.due("reason(), sixteen pieces", Due.sixteen().reason(), 2);
        });
        SAYS.holds(19, PIECE, () -> {
            BlinkMesh ring = Due.mesh("5,6,7,8;ab,bc,cd,da");
            ring.turn(0, false);
            SAYS.due("reason(), a ring without one", ring.reason(), 0);
            ring.turn(2, false);
            SAYS.due("reason(), a ring without two", ring.reason(), 2);
            BlinkMesh chain = Due.sixteen();
            chain.link(0, 15, true);
            for (int one = 15; one > 1; one--) {
                chain.link(one, one - 1, true);
            }
            SAYS.due("reason(), sixteen in a chain", chain.reason(), 0);
            chain.link(1, 2, false);
            SAYS.due("reason(), the last of them apart", chain.reason(), 2);
        });
        SAYS.holds(19, "3 lamps that are on have unlike rates", () -> {
            BlinkMesh x = Due.mesh("5,6,7*101;ab,bc");
            SAYS.due("reason()", x.reason(), 3);
            x.turn(2, false);
            SAYS.due("reason(), the unlike one is out", x.reason(), 0);
            SAYS.due("reason(), the first is unlike", Due.mesh("5*99,6,7;ab,bc").reason(), 3);
        });
        SAYS.holds(19, "4 the push is 0", () -> {
            BlinkMesh x = Due.mesh("5,6;ab");
            x.set(1, 0);
            SAYS.due("reason(), the push 0", x.reason(), 4);
            x.set(1, 1);
            SAYS.due("reason(), the push 1", x.reason(), 0);
        });
    }

    private static void reasonOrder() {
        SAYS.holds(19, "the first that holds", () -> {
            BlinkMesh x = Due.mesh("5,6*60");
            x.set(1, 0);
            SAYS.due("reason(), 2, 3 and 4 hold", x.reason(), 2);
            x.link(0, 1, true);
            SAYS.due("reason(), 3 and 4 hold", x.reason(), 3);
            x.tune(1, 6, 100);
            SAYS.due("reason(), 4 holds", x.reason(), 4);
            x.link(0, 1, false);
            SAYS.due("reason(), 2 and 4 hold", x.reason(), 2);
            out(x);
            SAYS.due("reason(), 1 and 4 hold", x.reason(), 1);
            SAYS.due("reason(), 2 and 3 hold", Due.mesh("5,6*60").reason(), 2);
        });
        SAYS.holds(19, TOGETHER, () -> {
            SAYS.due("reason(), one of three is apart", Due.mesh("5,5,6").reason(), 2);
            BlinkMesh x = Due.mesh("5,5,6");
            x.turn(2, false);
            SAYS.due("reason(), the one apart is out", x.reason(), 0);
        });
        SAYS.holds(19, ACT, () -> {
            Whole.isOnlyTold(SAYS, Whole::busy, "reason()", x -> x.reason());
            Whole.isOnlyTold(SAYS, BlinkMesh::new, "reason()", x -> x.reason());
        });
    }

    private static void spread() {
        SAYS.holds(20, "Returns the distance in hundredths, 0 with one; NONE if no lamp is on.", () -> {
            SAYS.due("spread() without lamps", new BlinkMesh().spread(), NONE);
            SAYS.due("spread(), all out", out(Due.mesh("5,50")).spread(), NONE);
            SAYS.due("spread() of one", Due.mesh("50").spread(), 0);
            BlinkMesh x = Due.mesh("5,50,70");
            x.turn(0, false);
            x.turn(2, false);
            SAYS.due("spread(), one is on", x.spread(), 0);
            SAYS.due("spread() of two that agree", Due.mesh("5,5").spread(), 0);
            BlinkMesh fine = Due.mesh("0*50,0*51");
            fine.pass(1);
            SAYS.due("spread() of a hundredth", fine.spread(), 1);
        });
        SAYS.holds(20, "the greatest distance of two of them", () -> {
            SAYS.due("spread() of three", Due.mesh("10,20,35").spread(), 2500);
            SAYS.due("spread() of half the period", Due.mesh("10,60").spread(), 5000);
            SAYS.due("spread() of a tick less", Due.mesh("10,59").spread(), 4900);
            SAYS.due("spread() of a tick more", Due.mesh("10,61").spread(), 4900);
            SAYS.due("spread() across the end", Due.mesh("98,1,99").spread(), 300);
            SAYS.due("spread() around the period", Due.mesh("0,33,66").spread(), 3400);
            BlinkMesh x = Due.mesh("10,20,55");
            x.turn(2, false);
            SAYS.due("spread(), the farthest is out", x.spread(), 1000);
            BlinkMesh last = Due.mesh("5,5,5,5,5,5,5,5,5,5,5,5,5,5,9,5");
            SAYS.due("spread() of the last two of sixteen", last.spread(), 400);
            last.tune(14, 5, 100);
            last.tune(15, 8, 100);
            SAYS.due("spread() of the last one of sixteen", last.spread(), 300);
        });
        SAYS.holds(20, DISTANCE, () -> {
            BlinkMesh x = Due.mesh("0,49*99");
            x.turn(0, false);
            x.pass(1);
            x.turn(0, true);
            SAYS.due("spread(), a hundredth less than half", x.spread(), 4999);
            SAYS.due("spread(), half", Due.mesh("0,50").spread(), 5000);
            SAYS.due("spread(), the greatest phase and the least", Due.mesh("0,199").spread(), 1);
            BlinkMesh longer = Due.mesh("0,199");
            longer.set(0, 200);
            SAYS.due("spread(), so in the period 200", longer.spread(), 9999);
        });
        SAYS.holds(20, NOTHING, () -> Whole.isLeft(SAYS, () -> out(Whole.calm()), "spread()", x -> x.spread(), NONE));
        SAYS.holds(20, ACT, () -> Whole.isOnlyTold(SAYS, Whole::busy, "spread()", x -> x.spread()));
    }
}
