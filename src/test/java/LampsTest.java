/** Promises 1 to 8: a new object, and the acts on lamps, links, settings and ticks. */
public final class LampsTest {
    private static final Due DUE = new Due("LampsTest");

    public static void main(String[] args) {
        newObject();
        come();
        goAway();
        turn();
        link();
        tune();
        set();
        pass();
        passPushes();
        passCascades();
        passDeaf();
        passOut();
        DUE.end();
    }

    private static void newObject() {
        BlinkMesh x = new BlinkMesh();
        int[] first = {0, 0, 0, 0, 0, 0, 0, 0, 0, 100, 10, 2, 0, 0};
        for (int what = 0; what < first.length; what++) {
            DUE.is("new: count(" + what + ")", x.count(what), first[what]);
        }
        DUE.is("new: lamp(0, 0)", x.lamp(0, 0), BlinkMesh.UNKNOWN);
        DUE.is("new: undo()", x.undo(), BlinkMesh.NONE);
        DUE.is("new: restore()", x.restore(), BlinkMesh.NONE);
    }

    private static void come() {
        BlinkMesh x = new BlinkMesh();
        DUE.is("come(-1, 100)", x.come(-1, 100), BlinkMesh.BAD_VALUE);
        DUE.is("come(100, 100)", x.come(100, 100), BlinkMesh.BAD_VALUE);
        DUE.is("come(0, 49)", x.come(0, 49), BlinkMesh.BAD_VALUE);
        DUE.is("come(0, 151)", x.come(0, 151), BlinkMesh.BAD_VALUE);
        DUE.is("come(MIN, MAX)", x.come(Integer.MIN_VALUE, Integer.MAX_VALUE), BlinkMesh.BAD_VALUE);
        DUE.is("no state for an error", x.count(12), 0);
        DUE.is("come(99, 150)", x.come(99, 150), 0);
        DUE.is("a state for an act", x.count(12), 1);
        int[] told = {9900, 150, 1, 0, 0, 0, 0, 1, 1, 0};
        for (int what = 0; what < told.length; what++) {
            DUE.is("come: lamp(0, " + what + ")", x.lamp(0, what), told[what]);
        }
        for (int lamp = 1; lamp < 16; lamp++) {
            DUE.is("come(0, 50)", x.come(0, 50), lamp);
        }
        DUE.is("come as the 17th", x.come(0, 100), BlinkMesh.FULL);
        DUE.is("a bad one as the 17th", x.come(100, 100), BlinkMesh.BAD_VALUE);
        x.goAway(7);
        x.goAway(3);
        DUE.is("the lowest free number", x.come(1, 100), 3);
        DUE.is("the next free number", x.come(1, 100), 7);
        DUE.is("full again", x.come(1, 100), BlinkMesh.FULL);
        BlinkMesh y = new BlinkMesh();
        y.set(0, 10);
        DUE.is("come(10, 100) in the period 10", y.come(10, 100), BlinkMesh.BAD_VALUE);
        DUE.is("come(9, 100) in the period 10", y.come(9, 100), 0);
        y.set(0, 200);
        DUE.is("come(199, 100) in the period 200", y.come(199, 100), 1);
    }

    private static void goAway() {
        BlinkMesh x = Due.mesh("1,2,3;ab,bc,ac");
        DUE.is("goAway(3)", x.goAway(3), BlinkMesh.UNKNOWN);
        DUE.is("goAway(-1)", x.goAway(-1), BlinkMesh.UNKNOWN);
        DUE.is("goAway(16)", x.goAway(16), BlinkMesh.UNKNOWN);
        DUE.is("goAway(32)", x.goAway(32), BlinkMesh.UNKNOWN);
        DUE.is("an error records nothing", x.count(12), 1);
        DUE.is("goAway(1)", x.goAway(1), 2);
        DUE.is("goAway(1) again", x.goAway(1), BlinkMesh.UNKNOWN);
        DUE.is("lamps", x.count(1), 2);
        DUE.is("lamps that are on", x.count(2), 2);
        DUE.is("links", x.count(3), 1);
        DUE.is("lamp(0, 6)", x.lamp(0, 6), 4);
        DUE.is("come takes its number", x.come(50, 60), 1);
        DUE.is("without its links", x.lamp(1, 6), 0);
        DUE.is("goAway(1) without links", x.goAway(1), 0);
        BlinkMesh y = Due.mesh("99,5");
        y.pass(1);
        y.goAway(0);
        DUE.is("blinks so far stay", y.count(5), 1);
        y.come(3, 70);
        DUE.is("a new lamp is not deaf", y.lamp(0, 3), 0);
        DUE.is("a new lamp has not blinked", y.lamp(0, 4), 0);
        DUE.is("a new lamp has no latest blink", y.lamp(0, 5), 0);
        y.link(0, 1, true);
        y.tune(1, 99, 100);
        y.pass(1);
        DUE.is("pushed once", y.lamp(0, 9), 1);
        y.turn(0, false);
        y.goAway(0);
        y.come(3, 70);
        DUE.is("a new lamp was never pushed", y.lamp(0, 9), 0);
        DUE.is("pushes so far stay", y.count(6), 1);
        DUE.is("a new lamp is on", y.lamp(0, 2), 1);
    }

    private static void turn() {
        BlinkMesh x = Due.mesh("99,5,6");
        x.pass(1);
        DUE.is("turn(3, true)", x.turn(3, true), BlinkMesh.UNKNOWN);
        DUE.is("turn(-1, false)", x.turn(-1, false), BlinkMesh.UNKNOWN);
        DUE.is("turn(0, true)", x.turn(0, true), BlinkMesh.NONE);
        DUE.is("NONE records nothing", x.count(12), 2);
        DUE.is("turn(0, false)", x.turn(0, false), 2);
        DUE.is("an act is recorded", x.count(12), 3);
        DUE.is("turn(0, false) again", x.turn(0, false), BlinkMesh.NONE);
        DUE.is("turn(1, false)", x.turn(1, false), 1);
        DUE.is("is out", x.lamp(0, 2), 0);
        x.pass(10);
        DUE.is("keeps its phase", x.lamp(0, 0), 0);
        DUE.is("keeps its phase", x.lamp(1, 0), 600);
        DUE.is("keeps how long it is deaf", x.lamp(0, 3), 2);
        DUE.is("turn(0, true)", x.turn(0, true), 2);
        x.pass(1);
        DUE.is("deaf for a tick less", x.lamp(0, 3), 1);
        DUE.is("grows again", x.lamp(0, 0), 100);
    }

    private static void link() {
        BlinkMesh x = Due.mesh("1,2,3");
        DUE.is("link(0, 3, true)", x.link(0, 3, true), BlinkMesh.UNKNOWN);
        DUE.is("link(3, 0, true)", x.link(3, 0, true), BlinkMesh.UNKNOWN);
        DUE.is("link(-1, 0, true)", x.link(-1, 0, true), BlinkMesh.UNKNOWN);
        DUE.is("link(3, 3, true)", x.link(3, 3, true), BlinkMesh.UNKNOWN);
        DUE.is("link(1, 1, true)", x.link(1, 1, true), BlinkMesh.BAD_VALUE);
        DUE.is("link(1, 1, false)", x.link(1, 1, false), BlinkMesh.BAD_VALUE);
        DUE.is("link(0, 1, false)", x.link(0, 1, false), BlinkMesh.NONE);
        DUE.is("nothing is recorded", x.count(12), 1);
        DUE.is("link(2, 0, true)", x.link(2, 0, true), 1);
        DUE.is("link(0, 2, true)", x.link(0, 2, true), BlinkMesh.NONE);
        DUE.is("link(0, 1, true)", x.link(0, 1, true), 2);
        DUE.is("lamp(0, 6)", x.lamp(0, 6), 6);
        DUE.is("lamp(2, 6)", x.lamp(2, 6), 1);
        DUE.is("link(0, 2, false)", x.link(0, 2, false), 1);
        DUE.is("lamp(0, 6)", x.lamp(0, 6), 2);
        DUE.is("lamp(2, 6)", x.lamp(2, 6), 0);
        DUE.is("two acts more", x.count(12), 4);
        x.turn(1, false);
        DUE.is("a link of a lamp that is out", x.link(1, 2, true), 2);
    }

    private static void tune() {
        BlinkMesh x = Due.mesh("7*60,99");
        DUE.is("tune(2, 0, 100)", x.tune(2, 0, 100), BlinkMesh.UNKNOWN);
        DUE.is("tune(-1, -1, 0)", x.tune(-1, -1, 0), BlinkMesh.UNKNOWN);
        DUE.is("tune(0, -1, 100)", x.tune(0, -1, 100), BlinkMesh.BAD_VALUE);
        DUE.is("tune(0, 100, 100)", x.tune(0, 100, 100), BlinkMesh.BAD_VALUE);
        DUE.is("tune(0, 0, 49)", x.tune(0, 0, 49), BlinkMesh.BAD_VALUE);
        DUE.is("tune(0, 0, 151)", x.tune(0, 0, 151), BlinkMesh.BAD_VALUE);
        DUE.is("nothing is recorded", x.count(12), 1);
        x.pass(1);
        DUE.is("tune(0, 99, 150)", x.tune(0, 99, 150), 760);
        DUE.is("its phase", x.lamp(0, 0), 9900);
        DUE.is("its rate", x.lamp(0, 1), 150);
        DUE.is("tune(0, 99, 150) again", x.tune(0, 99, 150), 9900);
        DUE.is("is an act all the same", x.count(12), 4);
        DUE.is("tune(1, 40, 50)", x.tune(1, 40, 50), 0);
        DUE.is("stays deaf", x.lamp(1, 3), 2);
        DUE.is("its blinks stay", x.lamp(1, 4), 1);
    }

    private static void set() {
        BlinkMesh x = Due.mesh("99,5*70,50");
        x.turn(2, false);
        DUE.is("set(-1, 10)", x.set(-1, 10), BlinkMesh.UNKNOWN);
        DUE.is("set(3, 10)", x.set(3, 10), BlinkMesh.UNKNOWN);
        DUE.is("set(3, -1)", x.set(3, -1), BlinkMesh.UNKNOWN);
        DUE.is("set(0, 9)", x.set(0, 9), BlinkMesh.BAD_VALUE);
        DUE.is("set(0, 201)", x.set(0, 201), BlinkMesh.BAD_VALUE);
        DUE.is("set(1, -1)", x.set(1, -1), BlinkMesh.BAD_VALUE);
        DUE.is("set(1, 101)", x.set(1, 101), BlinkMesh.BAD_VALUE);
        DUE.is("set(2, -1)", x.set(2, -1), BlinkMesh.BAD_VALUE);
        DUE.is("set(2, 100)", x.set(2, 100), BlinkMesh.BAD_VALUE);
        DUE.is("set(0, 100)", x.set(0, 100), BlinkMesh.NONE);
        DUE.is("set(1, 10)", x.set(1, 10), BlinkMesh.NONE);
        DUE.is("set(2, 2)", x.set(2, 2), BlinkMesh.NONE);
        DUE.is("nothing is recorded", x.count(12), 2);
        DUE.is("set(0, 10)", x.set(0, 10), 100);
        DUE.is("is an act", x.count(12), 3);
        DUE.is("the greatest phase", x.lamp(0, 0), 999);
        DUE.is("a smaller phase", x.lamp(1, 0), 500);
        DUE.is("one that is out", x.lamp(2, 0), 999);
        DUE.is("set(0, 200)", x.set(0, 200), 10);
        DUE.is("phases stay", x.lamp(0, 0), 999);
        DUE.is("set(1, 0)", x.set(1, 0), 10);
        DUE.is("set(1, 100)", x.set(1, 100), 0);
        DUE.is("set(2, 99)", x.set(2, 99), 2);
        DUE.is("set(2, 0)", x.set(2, 0), 99);
        DUE.is("count(9)", x.count(9), 200);
        DUE.is("count(10)", x.count(10), 100);
        DUE.is("count(11)", x.count(11), 0);
        BlinkMesh y = Due.mesh("99");
        y.pass(1);
        y.set(2, 0);
        DUE.is("deaf as long as told at the blink", y.lamp(0, 3), 2);
    }

    private static void pass() {
        BlinkMesh x = Due.mesh("0*150,0*50");
        DUE.is("pass(0)", x.pass(0), BlinkMesh.BAD_VALUE);
        DUE.is("pass(-1)", x.pass(-1), BlinkMesh.BAD_VALUE);
        DUE.is("pass(1000)", x.pass(1000), BlinkMesh.BAD_VALUE);
        DUE.is("nothing is recorded", x.count(12), 1);
        DUE.is("pass(66)", x.pass(66), 0);
        DUE.is("just before", x.lamp(0, 0), 9900);
        DUE.is("slowly", x.lamp(1, 0), 3300);
        DUE.is("pass(1)", x.pass(1), 1);
        DUE.is("to 0, whatever is beyond", x.lamp(0, 0), 0);
        DUE.is("is an act", x.count(12), 3);
        DUE.is("the tick", x.count(0), 67);
        DUE.is("the tick of the latest blink", x.lamp(0, 5), 67);
        DUE.is("pass(999)", x.pass(999), 19);
        DUE.is("the tick", x.count(0), 1066);
        BlinkMesh y = new BlinkMesh();
        for (int call = 0; call < 100; call++) {
            DUE.is("pass(999) without lamps", y.pass(999), 0);
        }
        DUE.is("the tick", y.count(0), 99900);
        DUE.is("pass(100) beyond", y.pass(100), BlinkMesh.FULL);
        DUE.is("pass(1000) beyond", y.pass(1000), BlinkMesh.BAD_VALUE);
        DUE.is("pass(99)", y.pass(99), 0);
        DUE.is("the latest tick", y.count(0), 99999);
        DUE.is("pass(1) beyond", y.pass(1), BlinkMesh.FULL);
        y.come(0, 100);
        DUE.is("what is told does not end there", y.next(0), 100);
        DUE.is("and undo goes behind it", y.undo(), 3);
        DUE.is("undo", y.undo(), 2);
        DUE.is("pass(99) again", y.pass(99), 0);
    }

    private static void passPushes() {
        BlinkMesh x = Due.mesh("99,33*51,0;ab,ac");
        x.pass(1);
        DUE.is("a push is rounded down", x.lamp(1, 0), 3351 + 335);
        DUE.is("a push of what is 100", x.lamp(2, 0), 110);
        DUE.is("pushes of all", x.count(6), 2);
        DUE.is("pushes of one", x.lamp(1, 9), 1);
        DUE.is("no push for the one that blinks", x.lamp(0, 9), 0);
        BlinkMesh none = Due.mesh("99,33;ab");
        none.set(1, 0);
        none.pass(1);
        DUE.is("a push of 0", none.lamp(1, 0), 3400);
        DUE.is("is a push", none.lamp(1, 9), 1);
        BlinkMesh twice = Due.mesh("99,99,50;ac,bc");
        DUE.is("two blink", twice.pass(1), 2);
        DUE.is("each pushes", twice.lamp(2, 0), 5610 + 561);
        DUE.is("count(6)", twice.count(6), 2);
        BlinkMesh full = Due.mesh("99,99,98;ac,bc");
        full.set(1, 50);
        DUE.is("a full one blinks", full.pass(1), 3);
        DUE.is("and was pushed by both", full.lamp(2, 9), 2);
        DUE.is("its phase", full.lamp(2, 0), 0);
        BlinkMesh both = Due.mesh("99,99;ab");
        both.pass(1);
        DUE.is("what blinked is not pushed", both.count(6), 0);
        DUE.is("both blinked together", both.count(8), 2);
        both.set(2, 0);
        both.pass(100);
        DUE.is("nor if it is not deaf", both.count(6), 0);
    }

    private static void passCascades() {
        BlinkMesh x = Due.mesh("99,90,83,75,20;ab,bc,cd");
        x.set(1, 20);
        DUE.is("one sets off the next", x.pass(1), 3);
        DUE.is("a ripe one", x.lamp(2, 4), 1);
        DUE.is("one that is not", x.lamp(3, 0), 7600 + 1520);
        DUE.is("pushes", x.count(6), 3);
        DUE.is("one that nobody pushed", x.lamp(4, 0), 2100);
        DUE.is("ticks in which two blinked", x.count(7), 1);
        DUE.is("the most together", x.count(8), 3);
        // A push just to the full phase, and one hundredth less.
        BlinkMesh just = Due.mesh("199,79,198;ab");
        just.set(1, 25);
        DUE.is("the push to the full phase", just.pass(1), 3);
        BlinkMesh less = Due.mesh("99,78;ab");
        less.set(1, 25);
        DUE.is("the push below it", less.pass(1), 1);
        DUE.is("lamp(1, 0)", less.lamp(1, 0), 9875);
        // The pushed one reaches the full phase by the second push of its round.
        BlinkMesh round = Due.mesh("99,99,85,10;ac,bc,cd");
        DUE.is("pushed twice, then blinks", round.pass(1), 3);
        DUE.is("and pushes in its round", round.lamp(3, 0), 1210);
        // Two lamps that one push of each makes ripe, and that push on in the next round.
        BlinkMesh fork = Due.mesh("99,95,95,10,20;ab,ac,bd,ce");
        DUE.is("one sets off two", fork.pass(1), 3);
        DUE.is("the first pushes on", fork.lamp(3, 0), 1210);
        DUE.is("the second pushes on", fork.lamp(4, 0), 2310);
        // A chain through all sixteen, each in a round of its own.
        BlinkMesh chain = new BlinkMesh();
        chain.set(1, 100);
        chain.come(99, 100);
        for (int lamp = 1; lamp < 16; lamp++) {
            chain.come(60, 100);
            chain.link(lamp - 1, lamp, true);
        }
        DUE.is("sixteen rounds", chain.pass(1), 16);
        DUE.is("each is pushed once", chain.count(6), 15);
        DUE.is("the most together", chain.count(8), 16);
        DUE.is("the tick of the last one", chain.lamp(15, 5), 1);
    }

    private static void passDeaf() {
        BlinkMesh x = Due.mesh("99,97;ab");
        x.set(1, 1);
        x.pass(1);
        DUE.is("the deaf ticks", x.lamp(0, 3), 2);
        DUE.is("pushed", x.lamp(1, 0), 9898);
        x.pass(1);
        DUE.is("a tick less", x.lamp(0, 3), 1);
        DUE.is("the other blinks", x.pass(1), 1);
        DUE.is("no tick more", x.lamp(0, 3), 0);
        DUE.is("and pushes one that is not deaf now", x.lamp(0, 9), 1);
        BlinkMesh y = Due.mesh("99,97;ab");
        y.set(1, 1);
        y.set(2, 3);
        y.pass(3);
        DUE.is("one that is deaf is not pushed", y.lamp(0, 9), 0);
        DUE.is("a tick of it is left", y.lamp(0, 3), 1);
        y.pass(9);
        DUE.is("0 ticks are the least", y.lamp(0, 3), 0);
        DUE.is("y: pushes", y.count(6), 1);
        BlinkMesh never = Due.mesh("99,98;ab");
        never.set(2, 0);
        never.set(1, 0);
        never.pass(2);
        DUE.is("no deaf ticks", never.lamp(0, 9), 1);
    }

    private static void passOut() {
        BlinkMesh x = Due.mesh("99,50,99;ab,bc");
        x.turn(1, false);
        DUE.is("blinks past one that is out", x.pass(1), 2);
        DUE.is("it is not pushed", x.lamp(1, 9), 0);
        DUE.is("nor grows", x.lamp(1, 0), 5000);
        x.turn(0, false);
        x.turn(2, false);
        DUE.is("nobody blinks", x.pass(999), 0);
        DUE.is("ticks pass", x.count(0), 1000);
    }
}
