/** Compares answers with those that are due, and tells the wrong ones. */
final class Due {
    private final String test;
    private int asked;
    private int wrong;

    Due(String test) {
        this.test = test;
    }

    void is(String call, long got, long want) {
        asked++;
        if (got != want) {
            wrong++;
            System.out.println(test + ": " + call + " answered " + got + ", due is " + want);
        }
    }

    void end() {
        System.out.println(test + ": " + asked + " answers, " + wrong + " wrong");
        if (wrong != 0 || asked == 0) {
            System.exit(1);
        }
    }

    /** A mesh that is read from a text; the text is empty behind it. */
    static BlinkMesh mesh(String text) {
        BlinkMesh x = new BlinkMesh();
        int lamps = read(x, text);
        if (lamps < 1) {
            throw new IllegalStateException(text + " has a fault: " + lamps);
        }
        x.clearText();
        return x;
    }

    static int read(BlinkMesh x, String text) {
        x.clearText();
        type(x, text);
        return x.readMesh();
    }

    static void type(BlinkMesh x, String text) {
        for (int at = 0; at < text.length(); at++) {
            x.type(text.charAt(at));
        }
    }

    /** Sixteen lamps with the phases 0 to 15 and the rate 100. */
    static BlinkMesh sixteen() {
        return mesh("0,1,2,3,4,5,6,7,8,9,10,11,12,13,14,15");
    }

    /** Two lamps of unlike rates whose phases meet first in so many ticks (1999 or more); the push is 0. */
    static BlinkMesh meetingIn(int ticks) {
        for (int rate = 51; rate <= 150; rate++) {
            for (int phase = 0; phase < 200; phase++) {
                int meeting = meeting(phase, rate);
                if (meeting > ticks) {
                    BlinkMesh x = new BlinkMesh();
                    x.set(0, 200);
                    x.set(1, 0);
                    x.come(0, 50);
                    x.come(phase, rate);
                    x.pass(meeting - ticks);
                    return x;
                }
            }
        }
        throw new IllegalStateException("no phases meet then");
    }

    private static int meeting(int phase, int rate) {
        int one = 0;
        int other = phase * 100;
        for (int ticks = 0; ticks < 2900; ticks++) {
            if (one == other) {
                return ticks;
            }
            one = one + 50 >= 20000 ? 0 : one + 50;
            other = other + rate >= 20000 ? 0 : other + rate;
        }
        return -1;
    }
}
