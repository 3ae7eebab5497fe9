/** Promises 15 to 24: what is told. */
public final class ToldTest {
    private static final Due DUE = new Due("ToldTest");

    public static void main(String[] args) {
        lamp();
        apart();
        next();
        togetherIn();
        reason();
        spread();
        ifLinked();
        hub();
        bestLink();
        count();
        changesNothing();
        DUE.end();
    }

    private static void lamp() {
        BlinkMesh x = Due.mesh("99,10*70,10,10,30;ab,bc,de");
        for (int what = -1; what <= 10; what++) {
            DUE.is("lamp(5, " + what + ")", x.lamp(5, what), BlinkMesh.UNKNOWN);
            DUE.is("lamp(-1, " + what + ")", x.lamp(-1, what), BlinkMesh.UNKNOWN);
            DUE.is("lamp(32, " + what + ")", x.lamp(32, what), BlinkMesh.UNKNOWN);
        }
        DUE.is("lamp(0, -1)", x.lamp(0, -1), BlinkMesh.BAD_VALUE);
        DUE.is("lamp(0, 10)", x.lamp(0, 10), BlinkMesh.BAD_VALUE);
        DUE.is("lamp(MAX, 0)", x.lamp(Integer.MAX_VALUE, 0), BlinkMesh.UNKNOWN);
        DUE.is("lamp(0, MIN)", x.lamp(0, Integer.MIN_VALUE), BlinkMesh.BAD_VALUE);
        DUE.is("phase", x.lamp(1, 0), 1000);
        DUE.is("rate", x.lamp(1, 1), 70);
        DUE.is("on", x.lamp(1, 2), 1);
        DUE.is("links", x.lamp(1, 6), 5);
        DUE.is("piece", x.lamp(2, 7), 7);
        DUE.is("piece", x.lamp(4, 7), 24);
        DUE.is("agree", x.lamp(2, 8), 14);
        DUE.is("agrees alone", x.lamp(0, 8), 1);
        x.pass(1);
        DUE.is("phase", x.lamp(1, 0), 1070 + 107);
        DUE.is("deaf", x.lamp(0, 3), 2);
        DUE.is("blinks", x.lamp(0, 4), 1);
        DUE.is("latest", x.lamp(0, 5), 1);
        DUE.is("pushes", x.lamp(1, 9), 1);
        DUE.is("agree", x.lamp(2, 8), 12);
        x.pass(100);
        DUE.is("blinks", x.lamp(0, 4), 2);
        DUE.is("latest", x.lamp(0, 5), 101);
        x.turn(1, false);
        DUE.is("out", x.lamp(1, 2), 0);
        DUE.is("links of one that is out", x.lamp(1, 6), 5);
        DUE.is("links with one that is out", x.lamp(0, 6), 2);
        DUE.is("piece of one that is out", x.lamp(1, 7), 0);
        DUE.is("piece beside it", x.lamp(0, 7), 1);
        DUE.is("agree with one that is out", x.lamp(1, 8), 0);
        x.tune(1, 20, 100);
        x.tune(3, 20, 100);
        DUE.is("one that is out agrees with none", x.lamp(3, 8), 8);
        BlinkMesh longest = new BlinkMesh();
        for (int one = 0; one < 16; one++) {
            longest.come(one, 100);
        }
        // The way from 0 through all, by falling numbers: each round of a search finds one.
        longest.link(0, 15, true);
        for (int one = 15; one > 1; one--) {
            longest.link(one, one - 1, true);
        }
        DUE.is("a piece of sixteen", longest.lamp(0, 7), 65535);
        DUE.is("a piece of sixteen", longest.lamp(1, 7), 65535);
        DUE.is("one piece", longest.count(4), 1);
    }

    private static void apart() {
        BlinkMesh x = Due.mesh("0,50,51,99,0");
        DUE.is("apart(0, 5)", x.apart(0, 5), BlinkMesh.UNKNOWN);
        DUE.is("apart(5, 0)", x.apart(5, 0), BlinkMesh.UNKNOWN);
        DUE.is("apart(-1, 0)", x.apart(-1, 0), BlinkMesh.UNKNOWN);
        DUE.is("apart(0, 16)", x.apart(0, 16), BlinkMesh.UNKNOWN);
        DUE.is("apart(0, 0)", x.apart(0, 0), 0);
        DUE.is("apart(0, 4)", x.apart(0, 4), 0);
        DUE.is("apart(0, 1)", x.apart(0, 1), 5000);
        DUE.is("apart(0, 2)", x.apart(0, 2), 4900);
        DUE.is("apart(2, 0)", x.apart(2, 0), 4900);
        DUE.is("apart(3, 0)", x.apart(3, 0), 100);
        x.turn(3, false);
        DUE.is("apart(3, 0), out", x.apart(3, 0), 100);
        x.set(0, 200);
        DUE.is("apart(3, 0) in the period 200", x.apart(3, 0), 9900);
    }

    private static void next() {
        BlinkMesh x = new BlinkMesh();
        DUE.is("next(-1)", x.next(-1), BlinkMesh.BAD_VALUE);
        DUE.is("next(2)", x.next(2), BlinkMesh.BAD_VALUE);
        DUE.is("next(0) without lamps", x.next(0), BlinkMesh.NONE);
        DUE.is("next(1) without lamps", x.next(1), BlinkMesh.NONE);
        x.set(0, 200);
        x.come(0, 50);
        DUE.is("the longest wait", x.next(0), 400);
        DUE.is("the one", x.next(1), 1);
        x.come(100, 150);
        DUE.is("a faster one", x.next(0), 67);
        DUE.is("the faster one", x.next(1), 2);
        x.turn(1, false);
        DUE.is("out", x.next(1), 1);
        x.turn(0, false);
        DUE.is("none is on", x.next(0), BlinkMesh.NONE);
        DUE.is("none is on", x.next(1), BlinkMesh.NONE);
        DUE.is("next(2)", x.next(2), BlinkMesh.BAD_VALUE);
        BlinkMesh y = Due.mesh("50,95,88,50;bc,cd");
        DUE.is("next(0)", y.next(0), 5);
        DUE.is("with what is set off", y.next(1), 6);
    }

    private static void togetherIn() {
        BlinkMesh x = new BlinkMesh();
        DUE.is("without lamps", x.togetherIn(), BlinkMesh.NONE);
        x.come(5, 100);
        DUE.is("one lamp", x.togetherIn(), 0);
        x.turn(0, false);
        DUE.is("none is on", x.togetherIn(), BlinkMesh.NONE);
        BlinkMesh y = Due.mesh("5,5*50,6");
        DUE.is("never", y.togetherIn(), BlinkMesh.NONE);
        y.turn(2, false);
        DUE.is("those that are on", y.togetherIn(), 0);
        BlinkMesh near = Due.mesh("95,91;ab");
        DUE.is("set off together", near.togetherIn(), 5);
        // Phases that meet between blinks: 0 + 150 t and 99 + 50 t ticks meet behind 99 ticks.
        BlinkMesh meet = Due.mesh("0*150,30*100");
        meet.set(0, 200);
        DUE.is("phases meet on their way", meet.togetherIn(), 60);
        DUE.is("in 1999 ticks", Due.meetingIn(1999).togetherIn(), 1999);
        DUE.is("in 2000 ticks", Due.meetingIn(2000).togetherIn(), 2000);
        DUE.is("in 2001 ticks", Due.meetingIn(2001).togetherIn(), BlinkMesh.NONE);
    }

    private static void reason() {
        BlinkMesh x = new BlinkMesh();
        DUE.is("no lamp", x.reason(), 1);
        x.come(5, 100);
        DUE.is("together", x.reason(), 0);
        x.turn(0, false);
        DUE.is("no lamp that is on", x.reason(), 1);
        x.turn(0, true);
        x.come(6, 90);
        x.set(1, 0);
        DUE.is("several pieces", x.reason(), 2);
        x.link(0, 1, true);
        DUE.is("unlike rates", x.reason(), 3);
        x.tune(1, 6, 100);
        DUE.is("the push is 0", x.reason(), 4);
        x.set(1, 1);
        DUE.is("nothing of this", x.reason(), 0);
        x.set(1, 0);
        x.link(0, 1, false);
        x.tune(1, 5, 90);
        DUE.is("together all the same", x.reason(), 0);
        BlinkMesh y = Due.mesh("1,2*90,3;ab,bc,ac");
        y.turn(1, false);
        DUE.is("rates of lamps that are on", y.reason(), 0);
        y.turn(1, true);
        y.link(0, 2, false);
        y.turn(1, false);
        DUE.is("pieces without one that is out", y.reason(), 2);
    }

    private static void spread() {
        BlinkMesh x = new BlinkMesh();
        DUE.is("without lamps", x.spread(), BlinkMesh.NONE);
        x.come(40, 100);
        DUE.is("one", x.spread(), 0);
        x.come(90, 100);
        DUE.is("half the period", x.spread(), 5000);
        x.come(99, 100);
        x.come(2, 100);
        DUE.is("the greatest of all", x.spread(), 5000);
        x.turn(0, false);
        DUE.is("across the end", x.spread(), 1200);
        x.turn(1, false);
        DUE.is("across the end", x.spread(), 300);
        x.turn(2, false);
        DUE.is("one is on", x.spread(), 0);
        x.turn(3, false);
        DUE.is("none is on", x.spread(), BlinkMesh.NONE);
    }

    private static void ifLinked() {
        BlinkMesh x = Due.mesh("95,91");
        DUE.is("ifLinked(0, 2)", x.ifLinked(0, 2), BlinkMesh.UNKNOWN);
        DUE.is("ifLinked(2, 0)", x.ifLinked(2, 0), BlinkMesh.UNKNOWN);
        DUE.is("ifLinked(2, 2)", x.ifLinked(2, 2), BlinkMesh.UNKNOWN);
        DUE.is("ifLinked(-1, 0)", x.ifLinked(-1, 0), BlinkMesh.UNKNOWN);
        DUE.is("ifLinked(1, 1)", x.ifLinked(1, 1), BlinkMesh.BAD_VALUE);
        DUE.is("with a link", x.ifLinked(1, 0), 5);
        DUE.is("without one", x.togetherIn(), BlinkMesh.NONE);
        x.link(0, 1, true);
        DUE.is("with the link", x.togetherIn(), 5);
        DUE.is("taken away", x.ifLinked(0, 1), BlinkMesh.NONE);
        DUE.is("it is there still", x.count(3), 1);
        x.turn(0, false);
        DUE.is("one is on", x.ifLinked(0, 1), 0);
        x.turn(1, false);
        DUE.is("none is on", x.ifLinked(0, 1), BlinkMesh.NONE);
        DUE.is("both the same", x.ifLinked(0, 0), BlinkMesh.BAD_VALUE);
    }

    private static void hub() {
        BlinkMesh x = new BlinkMesh();
        DUE.is("without lamps", x.hub(), BlinkMesh.NONE);
        for (int lamp = 0; lamp < 5; lamp++) {
            x.come(lamp, 100);
        }
        DUE.is("without links", x.hub(), 0);
        x.goAway(0);
        DUE.is("the lowest that is there", x.hub(), 1);
        x.link(3, 4, true);
        DUE.is("of several the lowest", x.hub(), 3);
        x.link(4, 2, true);
        DUE.is("the most", x.hub(), 4);
        x.turn(4, false);
        x.turn(3, false);
        DUE.is("on or out", x.hub(), 4);
    }

    private static void bestLink() {
        BlinkMesh x = new BlinkMesh();
        DUE.is("bestLink(-1)", x.bestLink(-1), BlinkMesh.BAD_VALUE);
        DUE.is("bestLink(3)", x.bestLink(3), BlinkMesh.BAD_VALUE);
        x.come(95, 100);
        DUE.is("one lamp", x.bestLink(0), BlinkMesh.NONE);
        x.come(91, 100);
        x.come(50, 100);
        // With 1-2, lamp 1 blinks in the tick 9, lamp 2 in 45; behind 100 they are at 94.6 and 55, lamp 0 at 95.
        // With 0-2 the spread is 44 ticks then, with 0-1 it is 45.
        DUE.is("lower", x.bestLink(0), 1);
        DUE.is("other", x.bestLink(1), 2);
        DUE.is("spread", x.bestLink(2), 4000);
        x.turn(2, false);
        DUE.is("lower", x.bestLink(0), 0);
        DUE.is("other", x.bestLink(1), 1);
        DUE.is("spread", x.bestLink(2), 0);
        x.link(0, 1, true);
        for (int what = 0; what < 3; what++) {
            DUE.is("none is left", x.bestLink(what), BlinkMesh.NONE);
        }
        DUE.is("bestLink(3)", x.bestLink(3), BlinkMesh.BAD_VALUE);
        BlinkMesh ties = Due.mesh("5,5,5,5;ab,ac");
        DUE.is("of several the lowest lower", ties.bestLink(0), 0);
        DUE.is("then the lowest other", ties.bestLink(1), 3);
        ties.link(0, 3, true);
        DUE.is("the next lower", ties.bestLink(0), 1);
        DUE.is("and its other", ties.bestLink(1), 2);
    }

    private static void count() {
        BlinkMesh x = Due.mesh("99,50,20;ab");
        x.type('5');
        DUE.is("count(-1)", x.count(-1), BlinkMesh.BAD_VALUE);
        DUE.is("count(14)", x.count(14), BlinkMesh.BAD_VALUE);
        DUE.is("count(MAX)", x.count(Integer.MAX_VALUE), BlinkMesh.BAD_VALUE);
        x.pass(1);
        x.turn(2, false);
        int[] told = {1, 3, 2, 1, 1, 1, 1, 0, 0, 100, 10, 2, 3, 1};
        for (int what = 0; what < told.length; what++) {
            DUE.is("count(" + what + ")", x.count(what), told[what]);
        }
        x.turn(2, true);
        DUE.is("pieces", x.count(4), 2);
        x.tune(0, 0, 100);
        x.tune(1, 0, 100);
        x.tune(2, 50, 100);
        x.pass(100);
        DUE.is("ticks of several", x.count(7), 1);
        DUE.is("the most", x.count(8), 2);
        DUE.is("blinks", x.count(5), 4);
        DUE.is("blinks add up", x.lamp(0, 4) + x.lamp(1, 4) + x.lamp(2, 4), 4);
        DUE.is("pushes add up", x.lamp(0, 9) + x.lamp(1, 9) + x.lamp(2, 9), x.count(6));
        x.turn(0, false);
        x.turn(1, false);
        x.turn(2, false);
        DUE.is("no pieces", x.count(4), 0);
        DUE.is("three pieces", Due.mesh("1,2,3,4,5,6,7;ac,ce,bd,fg").count(4), 3);
        DUE.is("seven pieces", Due.mesh("1,2,3,4,5,6,7").count(4), 7);
        DUE.is("the most stays", x.count(8), 2);
    }

    private static void changesNothing() {
        BlinkMesh x = Due.mesh("95,91,40*60;ab");
        x.togetherIn();
        x.next(0);
        x.ifLinked(0, 2);
        x.bestLink(0);
        x.reason();
        x.spread();
        x.hub();
        int[] told = {0, 3, 3, 1, 2, 0, 0, 0, 0, 100, 10, 2, 1, 0};
        for (int what = 0; what < told.length; what++) {
            DUE.is("nothing changed: count(" + what + ")", x.count(what), told[what]);
        }
        DUE.is("phase", x.lamp(0, 0), 9500);
        DUE.is("undo()", x.undo(), 0);
    }
}
