/** Promises 9 to 11, sentence by sentence: the text, and the mesh that is read from it. */
public final class TextBoundsTest {
    private static final Sentences SAYS = new Sentences("TextBoundsTest");
    private static final int UNKNOWN = -1;
    private static final int FULL = -3;
    private static final String SIXTEEN = "0,1,2,3,4,5,6,7,8,9,0,1,2,3,4,5";
    private static final String ACT = "Each call of a method that is described as an act, and returns no error and not "
        + "NONE, records the state that was before it.";
    private static final String NOTHING = "A call that returns an error or NONE changes nothing.";

    public static void main(String[] args) {
        type();
        typeAnything();
        clearText();
        lamps();
        howManyLamps();
        phases();
        rates();
        zeros();
        digits();
        links();
        linksBehindLamps();
        letters();
        places();
        longTexts();
        readAnswers();
        readStays();
        readFits();
        readActs();
        SAYS.end();
    }

    /** The text makes so many lamps; it has no fault. */
    private static void makes(String text, int lamps) {
        BlinkMesh x = new BlinkMesh();
        SAYS.due("readMesh() of \"" + text + "\"", Due.read(x, text), lamps);
        SAYS.due("count(1) behind \"" + text + "\"", x.count(1), lamps);
    }

    private static void fault(String text, int place) {
        SAYS.due("readMesh() of \"" + text + "\"", Due.read(new BlinkMesh(), text), -100 - place);
    }

    private static BlinkMesh typed(String text) {
        BlinkMesh x = new BlinkMesh();
        Due.type(x, text);
        return x;
    }

    private static void type() {
        SAYS.holds(9, "Returns the length of the text then; FULL if it has 60 characters.", () -> {
            BlinkMesh x = new BlinkMesh();
            for (int length = 1; length <= 60; length++) {
                SAYS.due("type('1'), call " + length, x.type('1'), length);
            }
            SAYS.due("type('1'), call 61", x.type('1'), FULL);
            SAYS.due("type('1'), call 62", x.type('1'), FULL);
            x.clearText();
            SAYS.due("type('1') behind clearText()", x.type('1'), 1);
        });
        SAYS.holds(9, "There is a text of at most 60 characters, empty at first.", () -> {
            BlinkMesh x = new BlinkMesh();
            SAYS.due("count(13)", x.count(13), 0);
            Due.type(x, "1".repeat(59));
            SAYS.due("count(13)", x.count(13), 59);
            Due.type(x, "11");
            SAYS.due("count(13) behind 61", x.count(13), 60);
        });
        SAYS.holds(9, "Types a character behind the text.", () -> {
            BlinkMesh x = typed("12");
            x.readMesh();
            SAYS.due("lamp(0, 0) of \"12\"", x.lamp(0, 0), 1200);
            x.type('3');
            x.readMesh();
            SAYS.due("lamp(0, 0) of \"123\"", x.lamp(0, 0), 9999);
            BlinkMesh last = typed("1,2;" + "ab,".repeat(18) + "a");
            SAYS.due("type('b') as the 60th", last.type('b'), 60);
            SAYS.due("readMesh()", last.readMesh(), 2);
            BlinkMesh other = typed("1,2;" + "ab,".repeat(18) + "ac");
            SAYS.due("readMesh(), the 60th is wrong", other.readMesh(), -159);
        });
    }

    private static void typeAnything() {
        SAYS.holds(9, "`character`: any character", () -> {
            char[] any = {0, 1, ' ', '0', 'a', 127, 128, 255, 256, 0x661, 0xd800, 0xdfff, 0xfffe, 0xffff};
            BlinkMesh x = new BlinkMesh();
            for (int at = 0; at < any.length; at++) {
                SAYS.due("type((char) " + (int) any[at] + ")", x.type(any[at]), at + 1);
            }
            SAYS.due("clearText()", x.clearText(), any.length);
        });
        SAYS.holds(9, NOTHING, () -> {
            Whole.isLeft(SAYS, () -> typed("1,2;" + "ab,".repeat(18) + "ab"), "type('1')", x -> x.type('1'), FULL);
            Whole.isLeft(SAYS, () -> typed("10,20;" + "ab,".repeat(18)), "type('a')", x -> x.type('a'), FULL);
        });
        SAYS.holds(9, ACT, () -> {
            BlinkMesh x = Whole.calm();
            x.type('5');
            SAYS.due("count(12) behind type, which is no act", x.count(12), 1);
            SAYS.due("undo()", x.undo(), 0);
            SAYS.due("count(13), which no undo() takes", x.count(13), 1);
        });
    }

    private static void clearText() {
        SAYS.holds(10, "Returns the length that it had.", () -> {
            SAYS.due("clearText() of an empty text", new BlinkMesh().clearText(), 0);
            SAYS.due("clearText() of one", typed("5").clearText(), 1);
            SAYS.due("clearText() of 60", typed("5".repeat(60)).clearText(), 60);
            SAYS.due("clearText() of what was full", typed("5".repeat(61)).clearText(), 60);
        });
        SAYS.holds(10, "Empties the text.", () -> {
            BlinkMesh x = typed("5".repeat(60));
            x.clearText();
            SAYS.due("count(13)", x.count(13), 0);
            SAYS.due("readMesh()", x.readMesh(), -100);
            SAYS.due("clearText() again", x.clearText(), 0);
            SAYS.due("type('7')", x.type('7'), 1);
            SAYS.due("readMesh()", x.readMesh(), 1);
            SAYS.due("lamp(0, 0)", x.lamp(0, 0), 700);
        });
        SAYS.holds(10, ACT, () -> {
            BlinkMesh x = Whole.calm();
            x.type('5');
            x.clearText();
            SAYS.due("count(12) behind clearText(), which is no act", x.count(12), 1);
            SAYS.due("undo()", x.undo(), 0);
            SAYS.due("count(13), which no undo() brings back", x.count(13), 0);
        });
    }

    private static void lamps() {
        SAYS.holds(11, "A mesh is a text: one or more lamps with \",\" between two", () -> {
            fault("", 0);
            makes("5", 1);
            makes("5,6", 2);
            makes("5*60,6*70,7", 3);
            fault(",5", 0);
            fault("5,", 2);
            fault("5,,6", 2);
            fault("5 6", 1);
            fault("5.6", 1);
            fault("5;6", 1);
            fault("5,;", 2);
            fault(" 5", 0);
            fault("5\n", 1);
            fault("a", 0);
        });
    }

    private static void howManyLamps() {
        SAYS.holds(11, "Lamps have the numbers 0, 1 and so on in their order; 16 at most (a \",\" behind the sixteenth is not "
            + "allowed).", () -> {
                BlinkMesh x = new BlinkMesh();
                SAYS.due("readMesh() of sixteen", Due.read(x, SIXTEEN), 16);
                for (int lamp = 0; lamp < 16; lamp++) {
                    SAYS.due("lamp(" + lamp + ", 0)", x.lamp(lamp, 0), lamp % 10 * 100);
                }
                makes("0,1,2,3,4,5,6,7,8,9,0,1,2,3,4", 15);
                fault("0,1,2,3,4,5,6,7,8,9,0,1,2,3,4,", 30);
                fault(SIXTEEN + ",", 31);
                fault(SIXTEEN + ",6", 31);
                fault(SIXTEEN + "*60,", 34);
                makes(SIXTEEN + ";ap", 16);
                BlinkMesh y = Due.mesh("1,2,3");
                Due.read(y, "7");
                SAYS.due("lamp(0, 0) of \"7\"", y.lamp(0, 0), 700);
                SAYS.due("lamp(1, 0) of \"7\"", y.lamp(1, 0), UNKNOWN);
            });
    }

    private static void phases() {
        SAYS.holds(11, "A lamp is a phase (0 to 199, whole ticks)", () -> {
            BlinkMesh x = new BlinkMesh();
            x.set(0, 200);
            int[] phases = {0, 1, 9, 10, 19, 20, 99, 100, 198, 199};
            for (int phase : phases) {
                SAYS.due("readMesh() of \"" + phase + "\"", Due.read(x, "" + phase), 1);
                SAYS.due("lamp(0, 0) of \"" + phase + "\"", x.lamp(0, 0), phase * 100);
            }
            fault("-1", 0);
            fault("+1", 0);
            fault("200", 2);
            fault("999", 2);
            fault("1000", 3);
            fault("1.5", 1);
            fault("19a", 2);
            fault("/", 0);
            fault(":", 0);
            fault("1/", 1);
            fault("1:", 1);
        });
    }

    private static void rates() {
        SAYS.holds(11, "and perhaps \"*\" and a rate (50 to 150; 100 without it)", () -> {
            int[] rates = {50, 51, 59, 60, 99, 100, 109, 149, 150};
            for (int rate : rates) {
                BlinkMesh x = Due.mesh("7*" + rate + ",8");
                SAYS.due("lamp(0, 1) of \"7*" + rate + ",8\"", x.lamp(0, 1), rate);
                SAYS.due("lamp(0, 0)", x.lamp(0, 0), 700);
                SAYS.due("lamp(1, 1) without a rate", x.lamp(1, 1), 100);
            }
            fault("7*49", 2);
            fault("7*151", 4);
            fault("7*", 2);
            fault("7*,8", 2);
            fault("7**50", 2);
            fault("7*50*60", 4);
            fault("7*-50", 2);
            fault("7*/", 2);
            fault("7*:", 2);
            fault("7*5/", 3);
            fault("7*5:", 3);
            fault("*50", 0);
            fault("7,*50", 2);
        });
    }

    private static void zeros() {
        SAYS.holds(11, "Numbers have no zero in front, unless they are the single digit 0", () -> {
            makes("0", 1);
            makes("0,0", 2);
            makes("0*60", 1);
            makes("100", 1);
            fault("00", 1);
            fault("01", 1);
            fault("0199", 1);
            fault("5,05", 3);
            fault("5*0", 2);
            fault("5*060", 2);
            fault("5*0100", 2);
        });
    }

    private static void digits() {
        SAYS.holds(11, "a digit by which a number would be greater than told, or that no number as told begins with, is not "
            + "allowed", () -> {
                fault("200", 2);
                fault("20000", 2);
                fault("1990", 3);
                fault("1000", 3);
                makes("199", 1);
                fault("5*151", 4);
                fault("5*1500", 5);
                fault("5*1000", 5);
                fault("5*16", 3);
                fault("5*19", 3);
                fault("5*500", 4);
                fault("5*990", 4);
                for (char digit = '0'; digit <= '9'; digit++) {
                    boolean begins = digit == '1' || digit >= '5';
                    fault("5*" + digit, begins ? 3 : 2);
                }
                fault("5*10", 4);
                fault("5*15", 4);
                makes("5*50", 1);
                makes("5*99", 1);
                makes("5*150", 1);
            });
    }

    private static void links() {
        SAYS.holds(11, "then, if there are two lamps or more, perhaps \";\"", () -> {
            fault("5;", 1);
            fault("5;ab", 1);
            fault("5*60;ab", 4);
            makes("5", 1);
            makes("5,6", 2);
            makes("5,6;ab", 2);
            makes("5,6*60;ab", 2);
            fault("5,6;;ab", 4);
            fault("5,6;ab;ab", 6);
            fault("5,6ab", 3);
            fault(";ab", 0);
        });
        SAYS.holds(11, "(a link that is told twice is one)", () -> {
            BlinkMesh x = Due.mesh("1,2,3;ab,ab,ba,bc,cb");
            SAYS.due("count(3)", x.count(3), 2);
            SAYS.due("lamp(0, 6)", x.lamp(0, 6), 2);
            SAYS.due("lamp(1, 6)", x.lamp(1, 6), 5);
            SAYS.due("goAway(1)", x.goAway(1), 2);
        });
    }

    private static void linksBehindLamps() {
        SAYS.holds(11, "and one or more links with \",\" between two", () -> {
            fault("5,6;", 4);
            SAYS.due("count(3) of one link", Due.mesh("5,6,7;ab").count(3), 1);
            SAYS.due("count(3) of two links", Due.mesh("5,6,7;ab,cb").count(3), 2);
            fault("5,6;ab,", 7);
            fault("5,6;ab,,ab", 7);
            fault("5,6;,ab", 4);
            fault("5,6;abab", 6);
            fault("5,6;ab ab", 6);
            fault("5,6;ab,5", 7);
            fault("5,6;5", 4);
        });
    }

    private static void letters() {
        SAYS.holds(11, "A link is two different small letters, from \"a\" for the lamp 0 on, of lamps that are there.", () -> {
            BlinkMesh x = Due.mesh(SIXTEEN + ";ap,po");
            SAYS.due("lamp(0, 6)", x.lamp(0, 6), 1 << 15);
            SAYS.due("lamp(15, 6)", x.lamp(15, 6), 1 | 1 << 14);
            SAYS.due("count(3)", x.count(3), 2);
            fault("5,6;aa", 5);
            fault("5,6;bb", 5);
            fault("5,6;ac", 5);
            fault("5,6;ca", 4);
            fault("5,6,7;ad", 7);
            makes("5,6,7;ac", 3);
            fault("5,6;a", 5);
            fault("5,6;a,", 5);
            fault("5,6;Ab", 4);
            fault("5,6;aB", 5);
            fault("5,6;`a", 4);
            fault("5,6;a`", 5);
            fault("5,6;a1", 5);
            fault(SIXTEEN + ";aq", 33);
            fault(SIXTEEN + ";qa", 32);
            fault(SIXTEEN + ";az", 33);
        });
    }

    private static void places() {
        SAYS.holds(11, "The fault of the text is the index, from 0, of the first character that is not allowed at its place, or "
            + "the length of the text if it ends too early (the empty text does).", () -> {
                fault("", 0);
                fault("x", 0);
                fault("5x", 1);
                fault("5x6x", 1);
                fault("xx", 0);
                fault("5,", 2);
                fault("5*", 2);
                fault("5*1", 3);
                fault("5*15", 4);
                fault("5,6;", 4);
                fault("5,6;a", 5);
                fault("5,6;ab,", 7);
                fault("5,6;ab,b", 8);
                fault("5,6;ab,bb,aa", 8);
                fault("200,200", 2);
                fault("5,6;ac;x", 5);
                fault((char) 0 + "5", 0);
                fault("5" + (char) 0, 1);
                fault("5,6;a" + (char) ('b' + 256), 5);
                fault("5" + (char) (',' + 256) + "6", 1);
                fault((char) 0xffff + "", 0);
                fault("5" + (char) 0xffff, 1);
                fault((char) 0x665 + "", 0);
            });
    }

    private static void longTexts() {
        SAYS.holds(11, "There is a text of at most 60 characters, empty at first.", () -> {
            SAYS.due("readMesh() of the first text", new BlinkMesh().readMesh(), -100);
            makes("1,2;" + "ab,".repeat(18) + "ab", 2);
            fault("10,20;" + "ab,".repeat(18), 60);
            fault("10,20;" + "ab,".repeat(17) + "ab;", 59);
            fault("10,2;" + "ab,".repeat(18) + "a", 60);
            fault("1,2;" + "ab,".repeat(18) + "aa", 59);
            makes("10,20;" + "ab,".repeat(17) + "ab", 2);
        });
    }

    private static void readAnswers() {
        SAYS.holds(11, "Returns how many lamps there are then; -100 minus the fault of the text if it has one (which is an "
            + "error).", () -> {
                SAYS.due("readMesh() of \"\"", new BlinkMesh().readMesh(), -100);
                SAYS.due("readMesh() of \"x\"", typed("x").readMesh(), -100);
                SAYS.due("readMesh() of \"5x\"", typed("5x").readMesh(), -101);
                SAYS.due("readMesh() of one", typed("5").readMesh(), 1);
                SAYS.due("readMesh() of sixteen", typed(SIXTEEN).readMesh(), 16);
                SAYS.due("readMesh(), sixteen there and one in the text", Due.read(Due.sixteen(), "5"), 1);
                SAYS.due("readMesh(), one there and two in the text", Due.read(Due.mesh("5"), "5,6"), 2);
            });
        SAYS.holds(11, NOTHING, () -> {
            Whole.isLeft(SAYS, TextBoundsTest::busyWithFault, "readMesh()", x -> x.readMesh(), -107);
            Whole.isLeft(SAYS, Whole::calm, "readMesh()", x -> x.readMesh(), -100);
        });
    }

    private static BlinkMesh busyWithFault() {
        BlinkMesh x = Whole.busy();
        x.clearText();
        Due.type(x, "1,2;ab,");
        return x;
    }

    private static void readStays() {
        SAYS.holds(11, "Makes the mesh that of the text, which stays; the tick, what was counted so far, and the settings "
            + "stay.", () -> {
                BlinkMesh x = Whole.busy();
                x.clearText();
                Due.type(x, "7,8*60");
                int[] counts = new int[12];
                for (int what = 0; what < 12; what++) {
                    counts[what] = x.count(what);
                }
                SAYS.due("readMesh()", x.readMesh(), 2);
                SAYS.due("count(13)", x.count(13), 6);
                int[] mesh = {0, 2, 2, 0, 2};
                for (int what = 1; what <= 4; what++) {
                    SAYS.due("count(" + what + ")", x.count(what), mesh[what]);
                }
                SAYS.due("count(0)", x.count(0), counts[0]);
                for (int what = 5; what <= 11; what++) {
                    SAYS.due("count(" + what + "), which stays", x.count(what), counts[what]);
                }
                int[] lamp = {800, 60, 1, 0, 0, 0, 0, 2, 2, 0};
                for (int what = 0; what < 10; what++) {
                    SAYS.due("lamp(1, " + what + ")", x.lamp(1, what), lamp[what]);
                }
                SAYS.due("readMesh() again", x.readMesh(), 2);
                SAYS.due("lamp(2, 0)", x.lamp(2, 0), UNKNOWN);
                SAYS.due("come", x.come(5, 100), 2);
                SAYS.due("lamp(2, 6)", x.lamp(2, 6), 0);
                BlinkMesh fewer = Due.mesh("1,2,3,4;bc,bd,cd");
                Due.read(fewer, "5");
                SAYS.due("count(1), one lamp for four", fewer.count(1), 1);
                SAYS.due("count(3), no link for three", fewer.count(3), 0);
            });
    }

    private static void readFits() {
        SAYS.holds(11, "Phases that are too great for the period become the greatest that is possible.", () -> {
            BlinkMesh x = Due.mesh("0,98,99,100,101,199");
            int[] due = {0, 9800, 9900, 9999, 9999, 9999};
            for (int lamp = 0; lamp < due.length; lamp++) {
                SAYS.due("lamp(" + lamp + ", 0) in the period 100", x.lamp(lamp, 0), due[lamp]);
            }
            x.set(0, 10);
            Due.read(x, "9,10,199");
            SAYS.due("lamp(0, 0) in the period 10", x.lamp(0, 0), 900);
            SAYS.due("lamp(1, 0) in the period 10", x.lamp(1, 0), 999);
            SAYS.due("lamp(2, 0) in the period 10", x.lamp(2, 0), 999);
            x.set(0, 200);
            Due.read(x, "199");
            SAYS.due("lamp(0, 0) in the period 200", x.lamp(0, 0), 19900);
        });
        SAYS.holds(11, "ticks for which it is deaf still (0 at first)", () -> {
            BlinkMesh x = Due.mesh("99");
            x.pass(1);
            Due.read(x, "99");
            SAYS.due("lamp(0, 3)", x.lamp(0, 3), 0);
        });
    }

    private static void readActs() {
        SAYS.holds(11, ACT, () -> {
            Whole.isRecorded(SAYS, () -> typed("5"), "readMesh()", x -> x.readMesh());
            Whole.isRecorded(SAYS, Whole::busy, "readMesh()", x -> x.readMesh());
            Whole.isRecorded(SAYS, TextBoundsTest::readAlready, "readMesh() again", x -> x.readMesh());
        });
    }

    private static BlinkMesh readAlready() {
        BlinkMesh x = typed("5,6;ab");
        x.readMesh();
        return x;
    }
}
