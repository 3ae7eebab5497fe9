/** Promise 8, sentence by sentence: ticks that pass, with their blinks, pushes and rounds. */
public final class TickBoundsTest {
    private static final Sentences SAYS = new Sentences("TickBoundsTest");
    private static final int BAD_VALUE = -2;
    private static final int FULL = -3;
    private static final int[] BAD_TICKS = {Integer.MIN_VALUE, -999, -1, 0, 1000, Integer.MAX_VALUE};

    public static void main(String[] args) {
        arguments();
        answers();
        refused();
        counted();
        grows();
        blinks();
        blinked();
        whoIsPushed();
        whoIsDeaf();
        whoBlinkedAlready();
        howFarPushed();
        rounds();
        moreRounds();
        together();
        SAYS.end();
    }

    /** A mesh at the tick, which has as many lamps as asked for, unlinked. */
    private static BlinkMesh atTick(int tick, int lamps) {
        BlinkMesh x = new BlinkMesh();
        for (int lamp = 0; lamp < lamps; lamp++) {
            x.come(lamp, 100);
        }
        for (int call = 0; call < tick / 999; call++) {
            x.pass(999);
        }
        x.pass(tick % 999);
        return x;
    }

    private static void arguments() {
        SAYS.holds(8, "`ticks`: 1 to 999", () -> {
            for (int ticks : BAD_TICKS) {
                SAYS.due("pass(" + ticks + ")", new BlinkMesh().pass(ticks), BAD_VALUE);
            }
            BlinkMesh x = new BlinkMesh();
            SAYS.due("pass(1)", x.pass(1), 0);
            SAYS.due("count(0)", x.count(0), 1);
            SAYS.due("pass(999)", x.pass(999), 0);
            SAYS.due("count(0)", x.count(0), 1000);
        });
    }

    private static void answers() {
        SAYS.holds(8, "Returns how many blinks there were in them; BAD_VALUE; FULL if the tick would be beyond 99999.", () -> {
            BlinkMesh x = Due.mesh("5");
            SAYS.due("pass(94)", x.pass(94), 0);
            SAYS.due("pass(1)", x.pass(1), 1);
            SAYS.due("pass(199)", x.pass(199), 1);
            BlinkMesh most = new BlinkMesh();
            most.set(0, 10);
            for (int lamp = 0; lamp < 16; lamp++) {
                most.come(0, 150);
            }
            SAYS.due("pass(999), each of sixteen blinks in every seventh tick", most.pass(999), 16 * 142);
            SAYS.due("pass(1000)", most.pass(1000), BAD_VALUE);
            BlinkMesh late = atTick(99000, 0);
            SAYS.due("pass(999) at 99000", late.pass(999), 0);
            SAYS.due("count(0)", late.count(0), 99999);
            SAYS.due("pass(1) at 99999", late.pass(1), FULL);
            SAYS.due("pass(999) at 99999", late.pass(999), FULL);
            BlinkMesh before = atTick(99998, 0);
            SAYS.due("pass(2) at 99998", before.pass(2), FULL);
            SAYS.due("pass(1) at 99998", before.pass(1), 0);
            SAYS.due("pass(999) at 99001", atTick(99001, 0).pass(999), FULL);
        });
    }

    private static void refused() {
        SAYS.holds(8, "Where several errors can apply, the order of the @return line is the order of the checks.", () -> {
            BlinkMesh x = atTick(99999, 1);
            for (int ticks : BAD_TICKS) {
                SAYS.due("pass(" + ticks + ") at 99999", x.pass(ticks), BAD_VALUE);
            }
        });
        SAYS.holds(8, "A call that returns an error or NONE changes nothing.", () -> {
            Whole.isLeft(SAYS, Whole::busy, "pass(0)", x -> x.pass(0), BAD_VALUE);
            Whole.isLeft(SAYS, Whole::busy, "pass(1000)", x -> x.pass(1000), BAD_VALUE);
            Whole.isLeft(SAYS, () -> atTick(99950, 4), "pass(50) at 99950", x -> x.pass(50), FULL);
        });
        SAYS.holds(8, "Each call of a method that is described as an act, and returns no error and not NONE, records the "
            + "state that was before it.", () -> {
                Whole.isRecorded(SAYS, BlinkMesh::new, "pass(1) without lamps", x -> x.pass(1));
                Whole.isRecorded(SAYS, Whole::calm, "pass(1)", x -> x.pass(1));
                Whole.isRecorded(SAYS, Whole::busy, "pass(999)", x -> x.pass(999));
                Whole.isRecorded(SAYS, () -> atTick(99998, 2), "pass(1) at 99998", x -> x.pass(1));
            });
    }

    private static void counted() {
        SAYS.holds(8, "Then the tick is counted.", () -> {
            BlinkMesh x = Due.mesh("99");
            x.pass(1);
            SAYS.due("count(0)", x.count(0), 1);
            SAYS.due("lamp(0, 5), in the tick", x.lamp(0, 5), 1);
            x.pass(1);
            SAYS.due("count(0) behind a tick without blinks", x.count(0), 2);
            x.turn(0, false);
            x.pass(1);
            SAYS.due("count(0) behind a tick in which no lamp is on", x.count(0), 3);
            x.goAway(0);
            x.pass(2);
            SAYS.due("count(0) behind ticks without lamps", x.count(0), 5);
        });
    }

    private static void grows() {
        SAYS.holds(8, "The phase of each lamp that is on grows by its rate.", () -> {
            BlinkMesh x = Due.mesh("0*50,0*150,7,0*51");
            x.turn(2, false);
            x.pass(1);
            int[] one = {50, 150, 700, 51};
            for (int lamp = 0; lamp < 4; lamp++) {
                SAYS.due("lamp(" + lamp + ", 0) behind a tick", x.lamp(lamp, 0), one[lamp]);
            }
            x.pass(2);
            int[] three = {150, 450, 700, 153};
            for (int lamp = 0; lamp < 4; lamp++) {
                SAYS.due("lamp(" + lamp + ", 0) behind three", x.lamp(lamp, 0), three[lamp]);
            }
            BlinkMesh all = Due.sixteen();
            all.pass(1);
            SAYS.due("lamp(15, 0)", all.lamp(15, 0), 1600);
        });
        SAYS.holds(8, "A lamp that is on and deaf is so for a tick less.", () -> {
            BlinkMesh x = Due.mesh("99,99,0");
            x.pass(1);
            x.turn(1, false);
            int[] left = {2, 1, 0, 0, 0};
            for (int tick = 0; tick < left.length; tick++) {
                SAYS.due("lamp(0, 3), " + tick + " ticks later", x.lamp(0, 3), left[tick]);
                SAYS.due("lamp(1, 3), which is out", x.lamp(1, 3), 2);
                SAYS.due("lamp(2, 3), which was never deaf", x.lamp(2, 3), 0);
                x.pass(1);
            }
        });
    }

    private static void blinks() {
        SAYS.holds(8, "All lamps that are on and whose phase is 100 times the period, or more, blink.", () -> {
            BlinkMesh x = Due.mesh("99*99,99,99*101,99*150,98*150,100*50");
            x.turn(5, false);
            SAYS.due("pass(1)", x.pass(1), 3);
            int[] due = {9999, 0, 0, 0, 9950, 9999};
            int[] blinks = {0, 1, 1, 1, 0, 0};
            for (int lamp = 0; lamp < due.length; lamp++) {
                SAYS.due("lamp(" + lamp + ", 0)", x.lamp(lamp, 0), due[lamp]);
                SAYS.due("lamp(" + lamp + ", 4)", x.lamp(lamp, 4), blinks[lamp]);
            }
            BlinkMesh least = new BlinkMesh();
            least.set(0, 10);
            Due.read(least, "9*99,9");
            SAYS.due("pass(1) in the period 10", least.pass(1), 1);
            SAYS.due("lamp(0, 0)", least.lamp(0, 0), 999);
            BlinkMesh greatest = new BlinkMesh();
            greatest.set(0, 200);
            Due.read(greatest, "199*99,199");
            SAYS.due("pass(1) in the period 200", greatest.pass(1), 1);
            SAYS.due("lamp(0, 0)", greatest.lamp(0, 0), 19999);
        });
    }

    private static void blinked() {
        SAYS.holds(8, "A lamp that blinks has the phase 0 then, and is deaf for as many ticks as the setting 2 tells.", () -> {
            int[] settings = {0, 1, 2, 99};
            for (int ticks : settings) {
                BlinkMesh x = Due.mesh("99*150");
                x.set(2, ticks);
                x.pass(1);
                SAYS.due("lamp(0, 0)", x.lamp(0, 0), 0);
                SAYS.due("lamp(0, 3) with the setting " + ticks, x.lamp(0, 3), ticks);
            }
            BlinkMesh again = new BlinkMesh();
            again.set(0, 10);
            again.set(2, 99);
            again.come(9, 150);
            again.pass(1);
            SAYS.due("pass(7), deaf all the time", again.pass(7), 1);
            SAYS.due("lamp(0, 0)", again.lamp(0, 0), 0);
            SAYS.due("lamp(0, 3) behind a blink of one that is deaf", again.lamp(0, 3), 99);
            again.set(2, 3);
            SAYS.due("lamp(0, 3), the setting less", again.lamp(0, 3), 99);
            again.pass(7);
            SAYS.due("lamp(0, 3) behind the next blink", again.lamp(0, 3), 3);
        });
    }

    private static void whoIsPushed() {
        SAYS.holds(8, "each lamp that is linked with it, is on", () -> {
            BlinkMesh x = Due.mesh("99,50,50,50;ab,ca");
            x.turn(2, false);
            SAYS.due("pass(1)", x.pass(1), 1);
            SAYS.due("lamp(1, 9), linked", x.lamp(1, 9), 1);
            SAYS.due("lamp(1, 0), linked", x.lamp(1, 0), 5610);
            SAYS.due("lamp(2, 9), linked, out", x.lamp(2, 9), 0);
            SAYS.due("lamp(2, 0), linked, out", x.lamp(2, 0), 5000);
            SAYS.due("lamp(3, 9), not linked", x.lamp(3, 9), 0);
            SAYS.due("lamp(3, 0), not linked", x.lamp(3, 0), 5100);
            SAYS.due("count(6)", x.count(6), 1);
            BlinkMesh out = Due.mesh("99,50;ab");
            out.turn(0, false);
            out.pass(1);
            SAYS.due("count(6) where the one that would blink is out", out.count(6), 0);
            BlinkMesh from = Due.mesh("50,99;ab");
            from.pass(1);
            SAYS.due("lamp(0, 9), lower than the one that blinks", from.lamp(0, 9), 1);
        });
        SAYS.holds(8, "For each lamp that blinked in 2, or in the latest round of 3", () -> {
            BlinkMesh both = Due.mesh("99,99,50;ac,bc");
            both.pass(1);
            SAYS.due("lamp(2, 9), linked with two that blink", both.lamp(2, 9), 2);
            SAYS.due("lamp(2, 0)", both.lamp(2, 0), 5610 + 561);
            BlinkMesh once = Due.mesh("99,95,50;ab,ac");
            SAYS.due("pass(1)", once.pass(1), 2);
            SAYS.due("lamp(2, 9), linked with one of an earlier round", once.lamp(2, 9), 1);
            BlinkMesh later = Due.mesh("99,95,50;ab,bc");
            SAYS.due("pass(1)", later.pass(1), 2);
            SAYS.due("lamp(2, 9), linked with one of the latest round", later.lamp(2, 9), 1);
        });
    }

    private static void whoIsDeaf() {
        SAYS.holds(8, "is on, not deaf", () -> {
            SAYS.due("pushes of one that is deaf for a tick still", pushesBehind(2), 0);
            SAYS.due("pushes of one that was so in the tick before", pushesBehind(3), 1);
            SAYS.due("pushes of one that was so long ago", pushesBehind(9), 1);
            BlinkMesh x = Due.mesh("99,99");
            x.set(2, 0);
            x.pass(1);
            x.link(0, 1, true);
            x.tune(0, 99, 100);
            x.pass(1);
            SAYS.due("lamp(1, 9) with 0 deaf ticks", x.lamp(1, 9), 1);
        });
    }

    /** How often lamp 1 is pushed by one that blinks so many ticks behind its own blink, which makes it deaf for three. */
    private static int pushesBehind(int ticks) {
        BlinkMesh x = new BlinkMesh();
        x.set(2, 3);
        x.come(99 - ticks, 100);
        x.come(99, 100);
        x.pass(1);
        x.link(0, 1, true);
        x.pass(ticks);
        SAYS.due("lamp(0, 5)", x.lamp(0, 5), 1 + ticks);
        return x.lamp(1, 9);
    }

    private static void whoBlinkedAlready() {
        SAYS.holds(8, "has not blinked in this tick", () -> {
            BlinkMesh same = Due.mesh("99,99;ab");
            same.set(2, 0);
            SAYS.due("pass(1)", same.pass(1), 2);
            SAYS.due("count(6) where both blink in 2", same.count(6), 0);
            BlinkMesh back = Due.mesh("99,95;ab");
            back.set(2, 0);
            SAYS.due("pass(1)", back.pass(1), 2);
            SAYS.due("lamp(0, 9), linked with one that it set off", back.lamp(0, 9), 0);
            SAYS.due("lamp(1, 9)", back.lamp(1, 9), 1);
            BlinkMesh ring = Due.mesh("99,95,95;ab,ac,bc");
            ring.set(2, 0);
            SAYS.due("pass(1)", ring.pass(1), 3);
            SAYS.due("count(6) where two blink in the same round", ring.count(6), 2);
        });
    }

    private static void howFarPushed() {
        SAYS.holds(8, "its phase grows by itself times the setting 1, divided by 100, rounded down", () -> {
            SAYS.due("3351 pushed by 0 of 100", phaseBehindPush(100, 0, "33*51"), 3351);
            SAYS.due("99 pushed by 1 of 100", phaseBehindPush(100, 1, "0*99"), 99);
            SAYS.due("100 pushed by 1 of 100", phaseBehindPush(100, 1, "0*100"), 101);
            SAYS.due("199 pushed by 1 of 100", phaseBehindPush(100, 1, "1*99"), 200);
            SAYS.due("50 pushed by 33 of 100", phaseBehindPush(100, 33, "0*50"), 66);
            SAYS.due("3351 pushed by 10 of 100", phaseBehindPush(100, 10, "33*51"), 3686);
            SAYS.due("3351 pushed by 99 of 100", phaseBehindPush(100, 99, "33*51"), 3351 + 3317);
            SAYS.due("3351 pushed by 100 of 100", phaseBehindPush(100, 100, "33*51"), 6702);
            SAYS.due("9950 pushed by 100 of 100", phaseBehindPush(200, 100, "99*50"), 19900);
        });
        SAYS.holds(8, "but not beyond 100 times the period", () -> {
            BlinkMesh x = new BlinkMesh();
            x.set(0, 200);
            x.set(1, 100);
            x.come(150, 100);
            for (int lamp = 1; lamp < 16; lamp++) {
                x.come(199, 100);
                x.link(0, lamp, true);
            }
            // Each of the fifteen would double it.
            SAYS.due("pass(1)", x.pass(1), 16);
            SAYS.due("lamp(0, 9)", x.lamp(0, 9), 15);
            SAYS.due("lamp(0, 0)", x.lamp(0, 0), 0);
            SAYS.due("lamp(0, 4)", x.lamp(0, 4), 1);
        });
    }

    private static int phaseBehindPush(int period, int push, String pushed) {
        BlinkMesh x = new BlinkMesh();
        x.set(0, period);
        x.set(1, push);
        Due.read(x, (period - 1) + "," + pushed + ";ab");
        SAYS.due("pass(1)", x.pass(1), 1);
        SAYS.due("lamp(1, 9)", x.lamp(1, 9), 1);
        return x.lamp(1, 0);
    }

    private static void rounds() {
        SAYS.holds(8, "the lamps that were pushed and whose phase is 100 times the period, or more, blink as told in 2", () -> {
            BlinkMesh less = Due.mesh("99,98*100;ab");
            less.set(1, 1);
            SAYS.due("pass(1), pushed to 9999", less.pass(1), 1);
            SAYS.due("lamp(1, 0)", less.lamp(1, 0), 9999);
            BlinkMesh just = Due.mesh("99,98*101;ab");
            just.set(1, 1);
            SAYS.due("pass(1), pushed to 10000", just.pass(1), 2);
            SAYS.due("lamp(1, 0)", just.lamp(1, 0), 0);
            SAYS.due("lamp(1, 3)", just.lamp(1, 3), 2);
            SAYS.due("lamp(1, 4)", just.lamp(1, 4), 1);
            SAYS.due("lamp(1, 5)", just.lamp(1, 5), 1);
            BlinkMesh more = Due.mesh("99,98*102;ab");
            more.set(1, 1);
            more.set(2, 99);
            SAYS.due("pass(1), pushed beyond", more.pass(1), 2);
            SAYS.due("lamp(1, 0)", more.lamp(1, 0), 0);
            SAYS.due("lamp(1, 3)", more.lamp(1, 3), 99);
        });
        SAYS.holds(8, "Behind all of these pushes (a round)", () -> {
            BlinkMesh x = Due.mesh("99,99,95;ac,bc");
            SAYS.due("pass(1)", x.pass(1), 3);
            SAYS.due("lamp(2, 9), full by the first of two pushes", x.lamp(2, 9), 2);
            SAYS.due("lamp(2, 4)", x.lamp(2, 4), 1);
            BlinkMesh second = Due.mesh("99,99,85;ac,bc");
            SAYS.due("pass(1), full by the second push alone", second.pass(1), 3);
            BlinkMesh same = Due.mesh("99,99,95,95;ac,bd,cd");
            SAYS.due("pass(1)", same.pass(1), 4);
            SAYS.due("lamp(2, 9), linked with one that is full in the same round", same.lamp(2, 9), 1);
            SAYS.due("lamp(3, 9), linked with one that is full in the same round", same.lamp(3, 9), 1);
        });
    }

    private static void moreRounds() {
        SAYS.holds(8, "Rounds go on until none blinks.", () -> {
            BlinkMesh chain = new BlinkMesh();
            chain.set(1, 100);
            chain.come(99, 100);
            for (int lamp = 1; lamp < 16; lamp++) {
                chain.come(60, 100);
                chain.link(lamp - 1, lamp, true);
            }
            SAYS.due("pass(1), each blinks in a round of its own", chain.pass(1), 16);
            SAYS.due("count(6)", chain.count(6), 15);
            SAYS.due("lamp(15, 5)", chain.lamp(15, 5), 1);
            BlinkMesh stops = Due.mesh("99,95,50,95;ab,bc,cd");
            SAYS.due("pass(1), where the third is not full", stops.pass(1), 2);
            SAYS.due("lamp(3, 9), behind the third", stops.lamp(3, 9), 0);
            BlinkMesh adds = Due.mesh("99,95,83;ab,ac,bc");
            SAYS.due("pass(1), the third pushed in two rounds", adds.pass(1), 3);
            SAYS.due("lamp(2, 9)", adds.lamp(2, 9), 2);
        });
    }

    private static void together() {
        SAYS.holds(8, "Lamps blink together if they blink in the same tick, in whatever round.", () -> {
            BlinkMesh rounds = Due.mesh("99,95,95,20;ab,bc");
            rounds.pass(1);
            SAYS.due("count(7) behind three rounds", rounds.count(7), 1);
            SAYS.due("count(8) behind three rounds", rounds.count(8), 3);
            BlinkMesh apart = Due.mesh("99,99");
            apart.pass(1);
            SAYS.due("count(7), without a link", apart.count(7), 1);
            SAYS.due("count(8), without a link", apart.count(8), 2);
            BlinkMesh near = Due.mesh("99,98");
            near.pass(2);
            SAYS.due("count(5), in two ticks", near.count(5), 2);
            SAYS.due("count(7), in two ticks", near.count(7), 0);
            SAYS.due("count(8), in two ticks", near.count(8), 0);
        });
    }
}
