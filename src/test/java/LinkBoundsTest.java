/** Promises 21 to 24, sentence by sentence: what a link would bring, the hub, the best link, and what is counted. */
public final class LinkBoundsTest {
    private static final Sentences SAYS = new Sentences("LinkBoundsTest");
    private static final int UNKNOWN = -1;
    private static final int BAD_VALUE = -2;
    private static final int NONE = -5;
    private static final int MIN = Integer.MIN_VALUE;
    private static final int MAX = Integer.MAX_VALUE;
    // No lamp has one of these numbers where the lamps 0 to 3 are there.
    private static final int[] NO_LAMPS = {MIN, -32, -16, -1, 4, 5, 15, 16, 17, 31, 32, 33, 64, MAX};

    private static final String ACT = "Each call of a method that is described as an act, and returns no error and not "
        + "NONE, records the state that was before it.";
    private static final String ORDER = "Where several errors can apply, the order of the @return line is the order of "
        + "the checks.";
    private static final String NOTHING = "A call that returns an error or NONE changes nothing.";
    private static final String NONE_LAST = "NONE is no error; it is returned only if no error applies.";

    public static void main(String[] args) {
        ifLinkedArguments();
        ifLinkedAnswers();
        ifLinkedChanges();
        ifLinkedRefused();
        hub();
        hubRefused();
        bestLinkArguments();
        bestLinkNone();
        bestLinkChoice();
        bestLinkTicks();
        bestLinkSpread();
        countArguments();
        countLamps();
        countPieces();
        countBlinks();
        countTogether();
        countSettings();
        countStatesAndText();
        SAYS.end();
    }

    private static void ifLinkedArguments() {
        SAYS.holds(21, "`one`: a lamp", () -> {
            for (int one : NO_LAMPS) {
                SAYS.due("ifLinked(" + one + ", 0)", Whole.busy().ifLinked(one, 0), UNKNOWN);
            }
            SAYS.due("ifLinked(15, 0) of two that agree", agreeing().ifLinked(15, 0), 0);
        });
        SAYS.holds(21, "`other`: another one", () -> {
            for (int other : NO_LAMPS) {
                SAYS.due("ifLinked(0, " + other + ")", Whole.busy().ifLinked(0, other), UNKNOWN);
            }
            SAYS.due("ifLinked(0, 15) of two that agree", agreeing().ifLinked(0, 15), 0);
            SAYS.due("ifLinked(0, 0)", Whole.busy().ifLinked(0, 0), BAD_VALUE);
            SAYS.due("ifLinked(15, 15)", agreeing().ifLinked(15, 15), BAD_VALUE);
        });
    }

    private static BlinkMesh agreeing() {
        BlinkMesh x = new BlinkMesh();
        for (int lamp = 0; lamp < 16; lamp++) {
            x.come(5, 100);
        }
        return x;
    }

    private static void ifLinkedAnswers() {
        SAYS.holds(21, "Returns as togetherIn(); UNKNOWN (one or other); BAD_VALUE if both are the same.", () -> {
            BlinkMesh x = Due.mesh("5,5");
            SAYS.due("ifLinked(0, 1), now", x.ifLinked(0, 1), 0);
            SAYS.due("ifLinked(0, 2)", x.ifLinked(0, 2), UNKNOWN);
            SAYS.due("ifLinked(2, 0)", x.ifLinked(2, 0), UNKNOWN);
            SAYS.due("ifLinked(1, 1)", x.ifLinked(1, 1), BAD_VALUE);
            x.turn(0, false);
            SAYS.due("ifLinked(0, 1), one is on", x.ifLinked(0, 1), 0);
            x.turn(1, false);
            SAYS.due("ifLinked(0, 1), none is on", x.ifLinked(0, 1), NONE);
            SAYS.due("ifLinked(0, 1), in 1999 ticks", Due.meetingIn(1999).ifLinked(0, 1), 1999);
            SAYS.due("ifLinked(0, 1), in 2000 ticks", Due.meetingIn(2000).ifLinked(0, 1), 2000);
            SAYS.due("ifLinked(0, 1), in 2001 ticks", Due.meetingIn(2001).ifLinked(0, 1), NONE);
        });
    }

    private static void ifLinkedChanges() {
        SAYS.holds(21, "taken away where there is one, otherwise added", () -> {
            BlinkMesh x = Due.mesh("95,91");
            SAYS.due("ifLinked(0, 1), added", x.ifLinked(0, 1), 5);
            SAYS.due("ifLinked(1, 0), added", x.ifLinked(1, 0), 5);
            SAYS.due("togetherIn(), without it", x.togetherIn(), NONE);
            x.link(0, 1, true);
            SAYS.due("ifLinked(0, 1), taken away", x.ifLinked(0, 1), NONE);
            SAYS.due("ifLinked(1, 0), taken away", x.ifLinked(1, 0), NONE);
            SAYS.due("togetherIn(), with it", x.togetherIn(), 5);
            // Without the other link, lamp 2 stays behind.
            BlinkMesh three = Due.mesh("95,91,91;ab");
            SAYS.due("ifLinked(0, 2), beside another link", three.ifLinked(0, 2), 5);
            SAYS.due("ifLinked(0, 1), lamp 2 alone then", three.ifLinked(0, 1), NONE);
        });
    }

    private static void ifLinkedRefused() {
        SAYS.holds(21, ORDER, () -> {
            SAYS.due("ifLinked(4, 4)", Whole.busy().ifLinked(4, 4), UNKNOWN);
            SAYS.due("ifLinked(-1, -1)", Whole.busy().ifLinked(-1, -1), UNKNOWN);
        });
        SAYS.holds(21, NONE_LAST, () -> {
            BlinkMesh x = Due.mesh("5,6");
            x.turn(0, false);
            x.turn(1, false);
            SAYS.due("ifLinked(0, 2), none is on", x.ifLinked(0, 2), UNKNOWN);
            SAYS.due("ifLinked(0, 0), none is on", x.ifLinked(0, 0), BAD_VALUE);
        });
        SAYS.holds(21, NOTHING, () -> {
            Whole.isLeft(SAYS, Whole::busy, "ifLinked(0, 4)", x -> x.ifLinked(0, 4), UNKNOWN);
            Whole.isLeft(SAYS, Whole::busy, "ifLinked(0, 0)", x -> x.ifLinked(0, 0), BAD_VALUE);
            Whole.isLeft(SAYS, () -> Due.mesh("5,6;ab"), "ifLinked(0, 1)", x -> x.ifLinked(0, 1), NONE);
        });
        SAYS.holds(21, "The whole mesh is together if there is a lamp that is on, and all lamps that are on agree.", () -> {
            BlinkMesh x = Due.mesh("5,6,6,7;ab");
            SAYS.due("ifLinked(0, 1), none agree", x.ifLinked(0, 1), NONE);
            x.turn(3, false);
            SAYS.due("ifLinked(0, 1), some agree", x.ifLinked(0, 1), NONE);
            x.turn(0, false);
            SAYS.due("ifLinked(0, 1), all that are on agree", x.ifLinked(0, 1), 0);
            x.turn(1, false);
            SAYS.due("ifLinked(0, 1), one is on", x.ifLinked(0, 1), 0);
            x.turn(2, false);
            SAYS.due("ifLinked(0, 1), none is on", x.ifLinked(0, 1), NONE);
        });
        SAYS.holds(21, ACT, () -> {
            Whole.isOnlyTold(SAYS, Whole::busy, "ifLinked(0, 1)", x -> x.ifLinked(0, 1));
            Whole.isOnlyTold(SAYS, Whole::busy, "ifLinked(0, 2)", x -> x.ifLinked(0, 2));
        });
    }

    private static void hub() {
        SAYS.holds(22, "Finds the lamp with the most links, on or out, of several the lowest.", () -> {
            BlinkMesh x = Due.sixteen();
            SAYS.due("hub(), no links", x.hub(), 0);
            x.link(14, 15, true);
            SAYS.due("hub(), of two the lowest", x.hub(), 14);
            x.link(15, 13, true);
            SAYS.due("hub(), the last one", x.hub(), 15);
            x.turn(15, false);
            SAYS.due("hub(), out", x.hub(), 15);
            x.turn(13, false);
            x.turn(14, false);
            SAYS.due("hub(), linked with what is out", x.hub(), 15);
            x.link(0, 1, true);
            x.link(0, 2, true);
            SAYS.due("hub(), of two with two links the lowest", x.hub(), 0);
            x.goAway(1);
            SAYS.due("hub(), a link less", x.hub(), 15);
        });
        SAYS.holds(22, "Returns the lamp; NONE without lamps.", () -> {
            SAYS.due("hub() without lamps", new BlinkMesh().hub(), NONE);
            SAYS.due("hub() of one", Due.mesh("5").hub(), 0);
            BlinkMesh x = Due.mesh("5,6");
            x.goAway(0);
            SAYS.due("hub() of lamp 1 alone", x.hub(), 1);
            x.turn(1, false);
            SAYS.due("hub() of one that is out", x.hub(), 1);
            x.goAway(1);
            SAYS.due("hub(), the last one gone", x.hub(), NONE);
        });
    }

    private static void hubRefused() {
        SAYS.holds(22, NOTHING, () -> Whole.isLeft(SAYS, BlinkMesh::new, "hub()", x -> x.hub(), NONE));
        SAYS.holds(22, ACT, () -> Whole.isOnlyTold(SAYS, Whole::busy, "hub()", x -> x.hub()));
    }

    private static void bestLinkArguments() {
        SAYS.holds(23, "`what`: 0 for the lower lamp, 1 for the other one, 2 for the spread then", () -> {
            BlinkMesh x = Due.mesh("95,91,50;ab,ac");
            SAYS.due("bestLink(0)", x.bestLink(0), 1);
            SAYS.due("bestLink(1)", x.bestLink(1), 2);
            BlinkMesh still = Due.mesh("10,40");
            still.set(1, 0);
            SAYS.due("bestLink(2)", still.bestLink(2), 3000);
            BlinkMesh last = Due.sixteen();
            for (int lamp = 1; lamp < 14; lamp++) {
                last.goAway(lamp);
            }
            last.goAway(0);
            SAYS.due("bestLink(0), the last pair", last.bestLink(0), 14);
            SAYS.due("bestLink(1), the last pair", last.bestLink(1), 15);
        });
        SAYS.holds(23, NONE_LAST, () -> {
            SAYS.due("bestLink(-1) without lamps", new BlinkMesh().bestLink(-1), BAD_VALUE);
            SAYS.due("bestLink(3) without lamps", new BlinkMesh().bestLink(3), BAD_VALUE);
            SAYS.due("bestLink(3), all linked", Due.mesh("5,6;ab").bestLink(3), BAD_VALUE);
        });
        SAYS.holds(23, NOTHING, () -> {
            Whole.isLeft(SAYS, Whole::busy, "bestLink(3)", x -> x.bestLink(3), BAD_VALUE);
            Whole.isLeft(SAYS, () -> Due.mesh("5,6;ab"), "bestLink(0)", x -> x.bestLink(0), NONE);
        });
        SAYS.holds(23, ACT, () -> {
            Whole.isOnlyTold(SAYS, Whole::busy, "bestLink(0)", x -> x.bestLink(0));
            Whole.isOnlyTold(SAYS, Whole::busy, "bestLink(2)", x -> x.bestLink(2));
        });
    }

    private static void bestLinkNone() {
        SAYS.holds(23, "Returns the number; BAD_VALUE; NONE if no two lamps that are on are not linked.", () -> {
            int[] bad = {MIN, -1, 3, MAX};
            for (int what : bad) {
                SAYS.due("bestLink(" + what + ")", Due.mesh("5,6").bestLink(what), BAD_VALUE);
            }
            BlinkMesh x = Due.mesh("5,6,7;ab");
            x.turn(2, false);
            BlinkMesh[] none = {new BlinkMesh(), Due.mesh("5"), Due.mesh("5,6;ab"), Due.mesh("5,6,7;ab,ac,bc"), x};
            for (int mesh = 0; mesh < none.length; mesh++) {
                for (int what = 0; what <= 2; what++) {
                    SAYS.due("mesh " + mesh + ": bestLink(" + what + ")", none[mesh].bestLink(what), NONE);
                }
            }
            x.turn(2, true);
            SAYS.due("bestLink(0), on again", x.bestLink(0), 0);
            SAYS.due("bestLink(1), on again", x.bestLink(1), 2);
            SAYS.due("bestLink(2) of two that agree", Due.mesh("5,5").bestLink(2), 0);
        });
    }

    private static void bestLinkChoice() {
        SAYS.holds(23, "of several that with the lowest lower lamp", () -> {
            BlinkMesh x = Due.mesh("5,5,5,5;ab");
            SAYS.due("bestLink(0) of all as good", x.bestLink(0), 0);
            x.link(0, 2, true);
            x.link(0, 3, true);
            SAYS.due("bestLink(0), lamp 0 linked with all", x.bestLink(0), 1);
            x.turn(1, false);
            SAYS.due("bestLink(0), lamp 1 out", x.bestLink(0), 2);
        });
        SAYS.holds(23, "of these with the lowest other one", () -> {
            BlinkMesh x = Due.mesh("5,5,5,5");
            SAYS.due("bestLink(1) of all as good", x.bestLink(1), 1);
            x.link(0, 1, true);
            SAYS.due("bestLink(1), lamp 1 linked", x.bestLink(1), 2);
            x.turn(2, false);
            SAYS.due("bestLink(1), lamp 2 out", x.bestLink(1), 3);
        });
        SAYS.holds(23, "Finds the new link with which the spread is the least", () -> {
            // Lamps 2 and 3 blink together only by a link between them; lamps 0 and 1 agree.
            BlinkMesh x = Due.mesh("20,20,95,91");
            SAYS.due("bestLink(0), the last pair is the best", x.bestLink(0), 2);
            SAYS.due("bestLink(1), the last pair is the best", x.bestLink(1), 3);
            SAYS.due("bestLink(2), the last pair is the best", x.bestLink(2), 2500);
            BlinkMesh first = Due.mesh("95,91,20,20");
            SAYS.due("bestLink(0), the first pair is the best", first.bestLink(0), 0);
            SAYS.due("bestLink(1), the first pair is the best", first.bestLink(1), 1);
            first.turn(2, false);
            SAYS.due("bestLink(1), one is out", first.bestLink(1), 1);
            SAYS.due("bestLink(2), one is out", first.bestLink(2), 2500);
        });
    }

    private static void bestLinkTicks() {
        SAYS.holds(23, "the spread is the least behind 100 ticks", () -> {
            BlinkMesh x = new BlinkMesh();
            x.set(0, 200);
            x.come(0, 50);
            x.come(0, 100);
            SAYS.due("bestLink(2), a tick apart in two", x.bestLink(2), 5000);
            // Lamp 0 is at 10000 behind 100 ticks; the blink of lamp 1 pushes it to 15000.
            x.tune(0, 0, 100);
            x.set(1, 50);
            x.tune(1, 99, 100);
            SAYS.due("bestLink(2), lamp 1 at 19900, before its blink", x.bestLink(2), 9900);
            x.tune(1, 100, 100);
            SAYS.due("bestLink(2), lamp 1 at 0, in its blink", x.bestLink(2), 5000);
        });
    }

    private static void bestLinkSpread() {
        SAYS.holds(23, "The distance of two phases is their difference, or what is left of 100 times the period beside it, if "
            + "that is less.", () -> {
                // With the period and the rate 100, all are behind 100 ticks where they are now.
                int[][] apart = {{0, 49, 4900}, {0, 50, 5000}, {0, 51, 4900}, {0, 99, 100}, {7, 7, 0}};
                for (int[] pair : apart) {
                    BlinkMesh x = new BlinkMesh();
                    x.set(1, 0);
                    x.come(pair[0], 100);
                    x.come(pair[1], 100);
                    SAYS.due("bestLink(2) of " + pair[0] + " and " + pair[1], x.bestLink(2), pair[2]);
                }
                BlinkMesh out = new BlinkMesh();
                out.set(1, 0);
                out.come(10, 100);
                out.come(20, 100);
                out.come(60, 100);
                out.turn(2, false);
                SAYS.due("bestLink(2), the farthest is out", out.bestLink(2), 1000);
            });
    }

    private static void countArguments() {
        SAYS.holds(24, "Returns the number; BAD_VALUE.", () -> {
            int[] bad = {MIN, -1, 14, 15, MAX};
            for (int what : bad) {
                SAYS.due("count(" + what + ")", Whole.busy().count(what), BAD_VALUE);
            }
            for (int what = 0; what <= 13; what++) {
                SAYS.due("count(" + what + ") is a number", Whole.busy().count(what) >= 0 ? 1 : 0, 1);
            }
        });
        SAYS.holds(24, NOTHING, () -> Whole.isLeft(SAYS, Whole::busy, "count(14)", x -> x.count(14), BAD_VALUE));
        SAYS.holds(24, ACT, () -> {
            for (int what = 0; what <= 13; what++) {
                int asked = what;
                Whole.isOnlyTold(SAYS, Whole::busy, "count(" + what + ")", x -> x.count(asked));
            }
        });
        SAYS.holds(24, "0 for the tick", () -> {
            BlinkMesh x = new BlinkMesh();
            SAYS.due("count(0), at first", x.count(0), 0);
            for (int call = 0; call < 101; call++) {
                x.pass(990);
            }
            x.pass(9);
            SAYS.due("count(0), at last", x.count(0), 99999);
            x.pass(1);
            SAYS.due("count(0), not beyond", x.count(0), 99999);
        });
    }

    private static void countLamps() {
        SAYS.holds(24, "1 for lamps, 2 for those that are on", () -> {
            SAYS.due("count(1), none", new BlinkMesh().count(1), 0);
            SAYS.due("count(2), none", new BlinkMesh().count(2), 0);
            BlinkMesh x = Due.sixteen();
            SAYS.due("count(1), sixteen", x.count(1), 16);
            SAYS.due("count(2), sixteen", x.count(2), 16);
            for (int lamp = 0; lamp < 16; lamp++) {
                x.turn(lamp, false);
                SAYS.due("count(1), some out", x.count(1), 16);
                SAYS.due("count(2), some out", x.count(2), 15 - lamp);
            }
        });
        SAYS.holds(24, "3 for links", () -> {
            BlinkMesh x = Due.sixteen();
            SAYS.due("count(3), none", x.count(3), 0);
            for (int one = 0; one < 16; one++) {
                for (int other = one + 1; other < 16; other++) {
                    x.link(other, one, true);
                }
            }
            SAYS.due("count(3), all", x.count(3), 120);
            x.turn(0, false);
            SAYS.due("count(3), of one that is out too", x.count(3), 120);
            x.goAway(0);
            SAYS.due("count(3), one gone", x.count(3), 105);
        });
    }

    private static void countPieces() {
        SAYS.holds(24, "A piece of the mesh is all lamps that are on and come to each other by links of lamps that are on.",
            () -> {
                BlinkMesh x = Due.mesh("1,2,3,4,5;ab,bc,cd");
                SAYS.due("count(4), four by three links, and one", x.count(4), 2);
                x.turn(1, false);
                SAYS.due("count(4), past one that is out", x.count(4), 3);
                x.turn(4, false);
                SAYS.due("count(4), one that is out is none", x.count(4), 2);
                x.link(0, 3, true);
                SAYS.due("count(4), by another way", x.count(4), 1);
            });
        SAYS.holds(24, "4 for pieces", () -> {
            SAYS.due("count(4), no lamps", new BlinkMesh().count(4), 0);
            SAYS.due("count(4), one", Due.mesh("5").count(4), 1);
            SAYS.due("count(4), two and a link", Due.mesh("5,6;ab").count(4), 1);
            BlinkMesh x = Due.sixteen();
            SAYS.due("count(4), sixteen", x.count(4), 16);
            x.link(0, 15, true);
            SAYS.due("count(4), the first and the last linked", x.count(4), 15);
            for (int lamp = 0; lamp < 15; lamp++) {
                x.link(lamp, lamp + 1, true);
            }
            SAYS.due("count(4), a ring", x.count(4), 1);
            x.turn(3, false);
            SAYS.due("count(4), a ring without one", x.count(4), 1);
            x.turn(8, false);
            SAYS.due("count(4), a ring without two", x.count(4), 2);
            for (int lamp = 0; lamp < 16; lamp++) {
                x.turn(lamp, false);
            }
            SAYS.due("count(4), all out", x.count(4), 0);
        });
    }

    private static void countBlinks() {
        SAYS.holds(24, "5 for blinks so far", () -> {
            BlinkMesh x = Due.mesh("99,98,95;ac");
            SAYS.due("count(5), none", x.count(5), 0);
            x.pass(1);
            SAYS.due("count(5), two in a tick", x.count(5), 2);
            x.pass(1);
            SAYS.due("count(5), one more", x.count(5), 3);
            x.goAway(0);
            SAYS.due("count(5), of one that went away too", x.count(5), 3);
        });
        SAYS.holds(24, "6 for pushes so far", () -> {
            BlinkMesh x = Due.mesh("99,10,20;ab,ac");
            SAYS.due("count(6), none", x.count(6), 0);
            x.pass(1);
            SAYS.due("count(6), two in a tick", x.count(6), 2);
            x.pass(1);
            SAYS.due("count(6), no more", x.count(6), 2);
            x.goAway(1);
            SAYS.due("count(6), of one that went away too", x.count(6), 2);
        });
    }

    private static void countTogether() {
        SAYS.holds(24, "7 for ticks so far in which two lamps or more blinked together", () -> {
            BlinkMesh x = Due.mesh("99,98,98,97,97,97");
            x.pass(1);
            SAYS.due("count(7), one alone", x.count(7), 0);
            x.pass(1);
            SAYS.due("count(7), two", x.count(7), 1);
            x.pass(1);
            SAYS.due("count(7), three", x.count(7), 2);
            x.pass(1);
            SAYS.due("count(7), none", x.count(7), 2);
        });
        SAYS.holds(24, "Lamps blink together if they blink in the same tick, in whatever round.", () -> {
            BlinkMesh x = Due.mesh("99,95,50;ab");
            x.pass(1);
            SAYS.due("count(7), each in a round of its own", x.count(7), 1);
            SAYS.due("count(8), each in a round of its own", x.count(8), 2);
            BlinkMesh rounds = Due.mesh("99,95,95,95,95;ab,ac,bd,ce");
            rounds.pass(1);
            SAYS.due("count(7), one, two and two in three rounds", rounds.count(7), 1);
            SAYS.due("count(8), one, two and two in three rounds", rounds.count(8), 5);
        });
        SAYS.holds(24, "8 for the most that did so in a tick so far (0 as long as lamps blinked alone)", () -> {
            BlinkMesh x = Due.mesh("99,98,98,97,97,97,96,96");
            SAYS.due("count(8), none blinked", x.count(8), 0);
            x.pass(1);
            SAYS.due("count(8), one alone", x.count(8), 0);
            x.pass(1);
            SAYS.due("count(8), two", x.count(8), 2);
            x.pass(1);
            SAYS.due("count(8), three", x.count(8), 3);
            x.pass(1);
            SAYS.due("count(8), two again", x.count(8), 3);
            BlinkMesh all = new BlinkMesh();
            for (int lamp = 0; lamp < 16; lamp++) {
                all.come(99, 100);
            }
            all.pass(1);
            SAYS.due("count(8), sixteen", all.count(8), 16);
        });
    }

    private static void countSettings() {
        SAYS.holds(24, "9 to 11 for the settings", () -> {
            int[] first = {100, 10, 2};
            int[] least = {10, 0, 0};
            int[] greatest = {200, 100, 99};
            BlinkMesh x = new BlinkMesh();
            for (int which = 0; which < 3; which++) {
                SAYS.due("count(" + (9 + which) + "), at first", x.count(9 + which), first[which]);
                x.set(which, least[which]);
                SAYS.due("count(" + (9 + which) + "), the least", x.count(9 + which), least[which]);
                x.set(which, greatest[which]);
                SAYS.due("count(" + (9 + which) + "), the greatest", x.count(9 + which), greatest[which]);
            }
        });
    }

    private static void countStatesAndText() {
        SAYS.holds(24, "12 for the states in the history", () -> {
            BlinkMesh x = new BlinkMesh();
            for (int acts = 0; acts <= 6; acts++) {
                SAYS.due("count(12) behind " + acts + " acts", x.count(12), Math.min(acts, 4));
                x.come(5, 100);
            }
            for (int left = 3; left >= 0; left--) {
                x.undo();
                SAYS.due("count(12) behind undo()", x.count(12), left);
            }
            x.undo();
            SAYS.due("count(12) behind an undo() of nothing", x.count(12), 0);
        });
        SAYS.holds(24, "13 for the length of the text", () -> {
            BlinkMesh x = new BlinkMesh();
            for (int length = 0; length <= 62; length++) {
                SAYS.due("count(13) behind " + length + " characters", x.count(13), Math.min(length, 60));
                x.type((char) length);
            }
            x.clearText();
            SAYS.due("count(13) behind clearText()", x.count(13), 0);
        });
    }
}
