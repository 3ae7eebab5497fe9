/** Compares answers with those that are due, and tells the wrong ones. */
final class Due {
    private final String test;
    private int asked;
    private int wrong;

    Due(String test) {
        this.test = test;
    }

    void is(String call, long got, long want) {
        asked++;
        if (got != want) {
            wrong++;
            System.out.println(test + ": " + call + " answered " + got + ", due is " + want);
        }
    }

    void end() {
        System.out.println(test + ": " + asked + " answers, " + wrong + " wrong");
        if (wrong != 0 || asked == 0) {
            System.exit(1);
        }
    }

    /** A mesh that is read from a text; the text is empty behind it. */
    static BlinkMesh mesh(String text) {
        BlinkMesh x = new BlinkMesh();
        int lamps = read(x, text);
        if (lamps < 1) {
            throw new IllegalStateException(text + " has a fault: " + lamps);
        }
        x.clearText();
        return x;
    }

    static int read(BlinkMesh x, String text) {
        x.clearText();
        for (int at = 0; at < text.length(); at++) {
            x.type(text.charAt(at));
        }
        return x.readMesh();
    }
}
