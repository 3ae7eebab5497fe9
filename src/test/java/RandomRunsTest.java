import java.util.Random;

/** Promises 1 to 24: runs of 512 calls, drawn with fixed seeds, against PlainMesh. */
public final class RandomRunsTest {
    private static final Due DUE = new Due("RandomRunsTest");
    private static final int CALLS = 512;

    private final Random random;
    private final int run;
    private final BlinkMesh mesh = new BlinkMesh();
    private final PlainMesh plain = new PlainMesh();

    private RandomRunsTest(int run) {
        this.run = run;
        this.random = new Random(run);
    }

    public static void main(String[] args) {
        int runs = args.length == 0 ? 120 : Integer.parseInt(args[0]);
        for (int run = 0; run < runs; run++) {
            new RandomRunsTest(run).all();
        }
        DUE.end();
    }

    private void all() {
        int call = 0;
        while (call < CALLS) {
            if (random.nextInt(12) == 0) {
                call += readText(CALLS - call);
            } else if (random.nextInt(5) < 2) {
                look();
                call++;
            } else {
                change();
                call++;
            }
        }
    }

    private int below(int bound) {
        return random.nextInt(bound);
    }

    /** Mostly a lamp that may be there; at times any number. */
    private int lamp() {
        int draw = below(40);
        return draw == 0 ? random.nextInt() : draw == 1 ? below(40) - 12 : below(run % 2 == 0 ? 5 : 16);
    }

    private int near(int least, int greatest) {
        int draw = below(30);
        return draw == 0 ? random.nextInt() : draw == 1 ? least - 1 + below(2) : draw == 2 ? greatest + below(2)
            : least + below(greatest - least + 1);
    }

    private int rate() {
        return below(3) == 0 ? near(50, 150) : 100;
    }

    private void due(String call, int got, int want) {
        DUE.is("run " + run + ": " + call, got, want);
    }

    private void change() {
        int a = lamp();
        int b = lamp();
        boolean yes = below(3) > 0;
        int phase = below(8) == 0 ? near(0, 199) : below(Math.max(1, plain.count(9)));
        int rate = rate();
        switch (below(13)) {
            case 0, 1 -> due("come(" + phase + ", " + rate + ")", mesh.come(phase, rate), plain.come(phase, rate));
            case 2 -> due("goAway(" + a + ")", mesh.goAway(a), plain.goAway(a));
            case 3 -> due("turn(" + a + ", " + yes + ")", mesh.turn(a, yes), plain.turn(a, yes));
            case 4, 5, 6 -> due("link(" + a + ", " + b + ", " + yes + ")", mesh.link(a, b, yes), plain.link(a, b, yes));
            case 7 -> due("tune(" + a + ", " + phase + ", " + rate + ")", mesh.tune(a, phase, rate),
                plain.tune(a, phase, rate));
            case 8 -> changeSetting();
            case 9, 10 -> passTicks();
            case 11 -> due("undo()", mesh.undo(), plain.undo());
            default -> {
                if (below(2) == 0) {
                    due("keep()", mesh.keep(), plain.keep());
                } else {
                    due("restore()", mesh.restore(), plain.restore());
                }
            }
        }
    }

    private void changeSetting() {
        int which = near(0, 2);
        int value = below(4) == 0 ? near(-5, 210) : which == 0 ? near(10, 200) : which == 1 ? near(0, 100) : near(0, 20);
        due("set(" + which + ", " + value + ")", mesh.set(which, value), plain.set(which, value));
    }

    private void passTicks() {
        int ticks = below(3) == 0 ? near(1, run % 5 == 0 ? 999 : 300) : near(1, 9);
        due("pass(" + ticks + ")", mesh.pass(ticks), plain.pass(ticks));
    }

    private void look() {
        int a = lamp();
        int b = lamp();
        switch (below(40)) {
            case 0 -> due("togetherIn()", mesh.togetherIn(), plain.togetherIn());
            case 1 -> due("ifLinked(" + a + ", " + b + ")", mesh.ifLinked(a, b), plain.ifLinked(a, b));
            case 2 -> {
                int what = near(0, 2);
                due("bestLink(" + what + ")", mesh.bestLink(what), plain.bestLink(what));
            }
            case 3, 4, 5 -> {
                int what = near(0, 1);
                due("next(" + what + ")", mesh.next(what), plain.next(what));
            }
            case 6, 7, 8 -> due("reason()", mesh.reason(), plain.reason());
            case 9, 10, 11 -> due("spread()", mesh.spread(), plain.spread());
            case 12, 13, 14 -> due("hub()", mesh.hub(), plain.hub());
            case 15, 16, 17 -> due("apart(" + a + ", " + b + ")", mesh.apart(a, b), plain.apart(a, b));
            case 18, 19, 20, 21, 22, 23, 24, 25 -> {
                int what = near(0, 13);
                due("count(" + what + ")", mesh.count(what), plain.count(what));
            }
            default -> {
                int what = near(0, 9);
                due("lamp(" + a + ", " + what + ")", mesh.lamp(a, what), plain.lamp(a, what));
            }
        }
    }

    /** Returns how many calls it made: none if there is no room for all of them. */
    private int readText(int room) {
        String text = text();
        if (text.length() + 2 > room) {
            return 0;
        }
        due("clearText()", mesh.clearText(), plain.clearText());
        for (int at = 0; at < text.length(); at++) {
            due("type(" + (int) text.charAt(at) + ")", mesh.type(text.charAt(at)), plain.type(text.charAt(at)));
        }
        due("readMesh() of \"" + text + "\"", mesh.readMesh(), plain.readMesh());
        return text.length() + 2;
    }

    /** A mesh, and in two of three a sign of it changed, taken out or put in. */
    private String text() {
        int lamps = below(4) == 0 ? 1 + below(17) : 1 + below(5);
        StringBuilder text = new StringBuilder();
        for (int lamp = 0; lamp < lamps; lamp++) {
            text.append(lamp == 0 ? "" : ",").append(lamps > 9 ? below(100) : below(202));
            if (below(lamps > 9 ? 20 : 3) == 0) {
                text.append("*").append(near(50, 150));
            }
        }
        int links = below(5);
        for (int link = 0; link < links; link++) {
            text.append(link == 0 ? ";" : ",");
            text.append((char) ('a' + below(lamps))).append((char) ('a' + below(lamps + 1)));
        }
        int at = below(text.length());
        char sign = "0123456789,;*abcp \u0131".charAt(below(18));
        switch (below(9)) {
            case 0, 1 -> text.setCharAt(at, sign);
            case 2, 3 -> text.deleteCharAt(at);
            case 4, 5 -> text.insert(at, sign);
            default -> { }
        }
        return text.toString();
    }
}
