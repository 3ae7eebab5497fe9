/** Promises 9 to 11: the text, and the mesh that is read from it. */
public final class TextsTest {
    private static final Due DUE = new Due("TextsTest");

    public static void main(String[] args) {
        typing();
        goodMeshes();
        faultsOfLamps();
        faultsOfLinks();
        whatStays();
        DUE.end();
    }

    private static void typing() {
        BlinkMesh x = new BlinkMesh();
        DUE.is("clearText() of an empty text", x.clearText(), 0);
        for (int length = 1; length <= 60; length++) {
            DUE.is("type", x.type((char) (length * 1000)), length);
        }
        DUE.is("type beyond 60", x.type('1'), BlinkMesh.FULL);
        DUE.is("count(13)", x.count(13), 60);
        DUE.is("typing is no act", x.count(12), 0);
        DUE.is("clearText()", x.clearText(), 60);
        DUE.is("count(13) then", x.count(13), 0);
        DUE.is("type behind it", x.type((char) 0xffff), 1);
        DUE.is("a sign that no mesh has", x.readMesh(), -100);
        DUE.is("the text stays", x.count(13), 1);
    }

    private static void goodMeshes() {
        good("0", 1);
        good("199", 1);
        good("5*50,6*150,7*100,8*99,9*149", 5);
        good("10,20;ab", 2);
        good("10,20;ba,ab,ab", 2);
        good("0,1,2,3,4,5,6,7,8,9,10,11,12,13,14,15;ap,pa,op", 16);
        BlinkMesh x = Due.mesh("7,199*50,100,0*150;db,ab,ba,bd");
        DUE.is("lamp(0, 0)", x.lamp(0, 0), 700);
        DUE.is("lamp(0, 1)", x.lamp(0, 1), 100);
        DUE.is("lamp(1, 0), too great", x.lamp(1, 0), 9999);
        DUE.is("lamp(1, 1)", x.lamp(1, 1), 50);
        DUE.is("lamp(2, 0), just too great", x.lamp(2, 0), 9999);
        DUE.is("lamp(3, 1)", x.lamp(3, 1), 150);
        DUE.is("lamp(1, 6)", x.lamp(1, 6), 9);
        DUE.is("lamp(3, 6)", x.lamp(3, 6), 2);
        DUE.is("count(3)", x.count(3), 2);
        DUE.is("count(2)", x.count(2), 4);
        BlinkMesh back = Due.mesh("1,2,3,4;ba,ca,da");
        DUE.is("links told from the higher lamp", back.lamp(0, 6), 14);
        DUE.is("lamp(2, 6)", back.lamp(2, 6), 1);
        BlinkMesh y = new BlinkMesh();
        y.set(0, 200);
        Due.read(y, "199");
        DUE.is("199 in the period 200", y.lamp(0, 0), 19900);
    }

    private static void faultsOfLamps() {
        fault("", 0);
        fault(" 5", 0);
        fault("-5", 0);
        fault(",", 0);
        fault(";ab", 0);
        fault("*50", 0);
        fault("00", 1);
        fault("07", 1);
        fault("200", 2);
        fault("1999", 3);
        fault("5,", 2);
        fault("5,,", 2);
        fault("5,a", 2);
        fault("5,00", 3);
        fault("5 ", 1);
        fault("5:", 1);
        fault("5/", 1);
        fault("5,:", 2);
        fault("5,/", 2);
        fault("5*", 2);
        fault("5*0", 2);
        fault("5*4", 2);
        fault("5*5", 3);
        fault("5*5,", 3);
        fault("5*1", 3);
        fault("5*15", 4);
        fault("5*15;", 4);
        fault("5*151", 4);
        fault("5*16", 3);
        fault("5*1000", 5);
        fault("5*500", 4);
        fault("5*50*50", 4);
        fault("5**", 2);
        fault("0*100,", 6);
        fault("0*049", 2);
        fault("1,2,3,4,5,6,7,8,9,0,1,2,3,4,5,6,", 31);
        fault("1,2,3,4,5,6,7,8,9,0,1,2,3,4,5,6,7", 31);
        fault("1" + (char) 0, 1);
        fault((char) (256 + '1') + "", 0);
        fault((char) 0x661 + "", 0);
    }

    private static void faultsOfLinks() {
        fault("5;", 1);
        fault("5;ab", 1);
        fault("5,6;", 4);
        fault("5,6;a", 5);
        fault("5,6;aa", 5);
        fault("5,6;ac", 5);
        fault("5,6;c", 4);
        fault("5,6;A", 4);
        fault("5,6;`", 4);
        fault("5,6;ab,", 7);
        fault("5,6;ab,,", 7);
        fault("5,6;abc", 6);
        fault("5,6;ab;", 6);
        fault("5,6;ab ", 6);
        fault("5,6;ab1", 6);
        fault("5,6;a,", 5);
        fault("5,6;,", 4);
        fault("5,6,7;ab,bc,cd", 13);
        fault("1,2,3,4,5,6,7,8,9,0,1,2,3,4,5,6;aq", 33);
    }

    private static void whatStays() {
        BlinkMesh x = new BlinkMesh();
        x.set(0, 50);
        x.set(1, 20);
        x.set(2, 5);
        x.come(49, 100);
        x.come(49, 100);
        x.come(10, 100);
        x.link(0, 2, true);
        x.pass(1);
        x.turn(2, false);
        x.keep();
        DUE.is("readMesh", Due.read(x, "49,3"), 2);
        int[] told = {1, 2, 2, 0, 2, 2, 1, 1, 2, 50, 20, 5, 4, 4};
        for (int what = 0; what < told.length; what++) {
            DUE.is("stays: count(" + what + ")", x.count(what), told[what]);
        }
        int[] lamp = {4900, 100, 1, 0, 0, 0, 0, 1, 1, 0};
        for (int what = 0; what < lamp.length; what++) {
            DUE.is("new lamp(0, " + what + ")", x.lamp(0, what), lamp[what]);
        }
        DUE.is("it is gone", x.lamp(2, 0), BlinkMesh.UNKNOWN);
        DUE.is("it is an act", x.undo(), 3);
        DUE.is("the lamps are back", x.count(1), 3);
        DUE.is("the text is not", x.count(13), 4);
        DUE.is("readMesh once more", x.readMesh(), 2);
        DUE.is("the snapshot is still there", x.restore(), 3);
        x.clearText();
        DUE.is("a fault", x.readMesh(), -100);
        DUE.is("changes nothing", x.count(1), 3);
        // A mesh that is read has no lamp of the one before.
        BlinkMesh z = Due.mesh("1,2,3,4;cd,bd");
        DUE.is("fewer lamps", Due.read(z, "5"), 1);
        DUE.is("count(1)", z.count(1), 1);
        DUE.is("count(2)", z.count(2), 1);
        DUE.is("count(3)", z.count(3), 0);
        DUE.is("count(4)", z.count(4), 1);
        z.come(7, 100);
        DUE.is("one that comes has no links", z.lamp(1, 6), 0);
        // A mesh that is read has no links of the one before.
        BlinkMesh y = Due.mesh("1,2;ab");
        Due.read(y, "1,2");
        DUE.is("no links", y.count(3), 0);
        Due.read(y, "1,2;a");
        Due.read(y, "1,2,3;ab");
        DUE.is("a link of the latest text alone", y.count(3), 1);
    }

    private static void good(String text, int lamps) {
        BlinkMesh x = new BlinkMesh();
        DUE.is("\"" + text + "\"", Due.read(x, text), lamps);
        DUE.is("\"" + text + "\": lamps", x.count(1), lamps);
        DUE.is("\"" + text + "\": states", x.count(12), 1);
    }

    private static void fault(String text, int place) {
        BlinkMesh x = new BlinkMesh();
        x.come(5, 100);
        DUE.is("\"" + text + "\"", Due.read(x, text), -100 - place);
        DUE.is("\"" + text + "\": lamps", x.count(1), 1);
        DUE.is("\"" + text + "\": states", x.count(12), 1);
        DUE.is("\"" + text + "\": length", x.count(13), text.length());
    }
}
