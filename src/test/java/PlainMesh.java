import java.util.ArrayDeque;
import java.util.ArrayList;
import java.util.Deque;
import java.util.HashSet;
import java.util.List;
import java.util.Map;
import java.util.Set;
import java.util.TreeMap;
import java.util.TreeSet;
import java.util.regex.Matcher;
import java.util.regex.Pattern;

/** The document once more, in the words of the Java library: a second witness for random runs. */
final class PlainMesh {
    private static final int UNKNOWN = -1;
    private static final int BAD = -2;
    private static final int FULL = -3;
    private static final int NONE = -5;
    private static final Pattern[] MESHES = patterns();

    private State now = new State();
    private State snapshot;
    private final Deque<State> history = new ArrayDeque<>();
    private final StringBuilder text = new StringBuilder();

    private static final class Lamp {
        int phase;
        int rate;
        int deaf;
        boolean on = true;
        int blinks;
        int latest;
        int pushed;

        Lamp(int phase, int rate) {
            this.phase = phase;
            this.rate = rate;
        }

        Lamp copy() {
            Lamp c = new Lamp(phase, rate);
            c.deaf = deaf;
            c.on = on;
            c.blinks = blinks;
            c.latest = latest;
            c.pushed = pushed;
            return c;
        }
    }

    private static final class State {
        TreeMap<Integer, Lamp> lamps = new TreeMap<>();
        // A link is the set of its two lamps.
        Set<Set<Integer>> links = new HashSet<>();
        int[] settings = {100, 10, 2};
        int tick;
        int blinks;
        int pushes;
        int shared;
        int most;

        State copy() {
            State c = new State();
            for (Map.Entry<Integer, Lamp> e : lamps.entrySet()) {
                c.lamps.put(e.getKey(), e.getValue().copy());
            }
            c.links = new HashSet<>(links);
            c.settings = settings.clone();
            c.tick = tick;
            c.blinks = blinks;
            c.pushes = pushes;
            c.shared = shared;
            c.most = most;
            return c;
        }

        int full() {
            return 100 * settings[0];
        }

        List<Integer> lit() {
            List<Integer> all = new ArrayList<>();
            lamps.forEach((number, lamp) -> {
                if (lamp.on) {
                    all.add(number);
                }
            });
            return all;
        }

        boolean linked(int a, int b) {
            return links.contains(Set.of(a, b));
        }

        void flip(int a, int b) {
            if (!links.remove(Set.of(a, b))) {
                links.add(Set.of(a, b));
            }
        }

        Set<Integer> tick() {
            for (int n : lit()) {
                Lamp l = lamps.get(n);
                l.phase += l.rate;
                l.deaf = Math.max(0, l.deaf - 1);
            }
            Set<Integer> done = new TreeSet<>();
            Set<Integer> asked = new TreeSet<>(lit());
            while (true) {
                Set<Integer> latest = new TreeSet<>();
                for (int n : asked) {
                    if (lamps.get(n).phase >= full()) {
                        latest.add(n);
                    }
                }
                if (latest.isEmpty()) {
                    break;
                }
                for (int n : latest) {
                    Lamp l = lamps.get(n);
                    l.phase = 0;
                    l.deaf = settings[2];
                    l.blinks++;
                    l.latest = tick + 1;
                }
                done.addAll(latest);
                asked = new TreeSet<>();
                for (int n : latest) {
                    for (int o : lit()) {
                        Lamp l = lamps.get(o);
                        if (o != n && linked(n, o) && l.deaf == 0 && !done.contains(o)) {
                            l.phase = Math.min(full(), l.phase + l.phase * settings[1] / 100);
                            l.pushed++;
                            pushes++;
                            asked.add(o);
                        }
                    }
                }
            }
            tick++;
            blinks += done.size();
            if (done.size() > 1) {
                shared++;
                most = Math.max(most, done.size());
            }
            return done;
        }

        boolean together() {
            Set<Integer> phases = new HashSet<>();
            for (int n : lit()) {
                phases.add(lamps.get(n).phase);
            }
            return phases.size() == 1;
        }

        int togetherIn() {
            State s = copy();
            for (int t = 0; t <= 2000; t++) {
                if (s.together()) {
                    return t;
                }
                s.tick();
            }
            return NONE;
        }

        int distance(int a, int b) {
            int d = Math.floorMod(lamps.get(a).phase - lamps.get(b).phase, full());
            return Math.min(d, full() - d);
        }

        int spread() {
            int most = 0;
            for (int a : lit()) {
                for (int b : lit()) {
                    most = Math.max(most, distance(a, b));
                }
            }
            return most;
        }

        Set<Integer> piece(int n) {
            Set<Integer> piece = new TreeSet<>();
            Deque<Integer> open = new ArrayDeque<>();
            open.push(n);
            while (!open.isEmpty()) {
                int a = open.pop();
                if (lamps.get(a).on && piece.add(a)) {
                    for (int b : lamps.keySet()) {
                        if (a != b && linked(a, b)) {
                            open.push(b);
                        }
                    }
                }
            }
            return piece;
        }

        int pieces() {
            Set<Set<Integer>> all = new HashSet<>();
            for (int n : lit()) {
                all.add(piece(n));
            }
            return all.size();
        }

        Set<Integer> beside(int n) {
            Set<Integer> all = new TreeSet<>();
            for (int o : lamps.keySet()) {
                if (o != n && linked(n, o)) {
                    all.add(o);
                }
            }
            return all;
        }

        void clamp() {
            for (Lamp l : lamps.values()) {
                l.phase = Math.min(l.phase, full() - 1);
            }
        }
    }

    private static int bits(Iterable<Integer> set) {
        int bits = 0;
        for (int n : set) {
            bits |= 1 << n;
        }
        return bits;
    }

    private void act() {
        history.addLast(now.copy());
        if (history.size() > 4) {
            history.removeFirst();
        }
    }

    private boolean bad(int phase, int rate) {
        return phase < 0 || phase >= now.settings[0] || rate < 50 || rate > 150;
    }

    int come(int phase, int rate) {
        if (bad(phase, rate)) {
            return BAD;
        }
        for (int n = 0; n < 16; n++) {
            if (!now.lamps.containsKey(n)) {
                act();
                now.lamps.put(n, new Lamp(100 * phase, rate));
                return n;
            }
        }
        return FULL;
    }

    int goAway(int lamp) {
        if (!now.lamps.containsKey(lamp)) {
            return UNKNOWN;
        }
        act();
        int before = now.links.size();
        now.links.removeIf(l -> l.contains(lamp));
        now.lamps.remove(lamp);
        return before - now.links.size();
    }

    int turn(int lamp, boolean on) {
        if (!now.lamps.containsKey(lamp)) {
            return UNKNOWN;
        }
        if (now.lamps.get(lamp).on == on) {
            return NONE;
        }
        act();
        now.lamps.get(lamp).on = on;
        return now.lit().size();
    }

    int link(int one, int other, boolean linked) {
        if (!now.lamps.containsKey(one) || !now.lamps.containsKey(other)) {
            return UNKNOWN;
        }
        if (one == other) {
            return BAD;
        }
        if (now.linked(one, other) == linked) {
            return NONE;
        }
        act();
        now.flip(one, other);
        return now.links.size();
    }

    int tune(int lamp, int phase, int rate) {
        if (!now.lamps.containsKey(lamp)) {
            return UNKNOWN;
        }
        if (bad(phase, rate)) {
            return BAD;
        }
        act();
        Lamp l = now.lamps.get(lamp);
        int before = l.phase;
        l.phase = 100 * phase;
        l.rate = rate;
        return before;
    }

    int set(int which, int value) {
        int[][] ranges = {{10, 200}, {0, 100}, {0, 99}};
        if (which < 0 || which > 2) {
            return UNKNOWN;
        }
        if (value < ranges[which][0] || value > ranges[which][1]) {
            return BAD;
        }
        int before = now.settings[which];
        if (before == value) {
            return NONE;
        }
        act();
        now.settings[which] = value;
        now.clamp();
        return before;
    }

    int pass(int ticks) {
        if (ticks < 1 || ticks > 999) {
            return BAD;
        }
        if (now.tick + ticks > 99999) {
            return FULL;
        }
        act();
        int blinks = 0;
        for (int t = 0; t < ticks; t++) {
            blinks += now.tick().size();
        }
        return blinks;
    }

    int type(char character) {
        if (text.length() == 60) {
            return FULL;
        }
        return text.append(character).length();
    }

    int clearText() {
        int before = text.length();
        text.setLength(0);
        return before;
    }

    private static Pattern[] patterns() {
        String lamp = "(0|[1-9][0-9]?|1[0-9][0-9])(\\*([5-9][0-9]|1[0-4][0-9]|150))?";
        Pattern[] all = new Pattern[17];
        for (int n = 1; n <= 16; n++) {
            StringBuilder link = new StringBuilder("(");
            for (char c = 'a'; c < 'a' + n; c++) {
                String letters = "abcdefghijklmnop".substring(0, n).replace("" + c, "");
                link.append(c == 'a' ? "" : "|").append(c).append("[").append(letters).append("]");
            }
            link.append(")");
            String links = n == 1 ? "" : "(;" + link + "(," + link + ")*)?";
            all[n] = Pattern.compile(lamp + "(," + lamp + "){" + (n - 1) + "}" + links);
        }
        return all;
    }

    /** The number of lamps of a mesh; 0 if it may become one, -1 if not. */
    private static int look(String mesh) {
        int may = -1;
        for (int n = 1; n <= 16; n++) {
            Matcher m = MESHES[n].matcher(mesh);
            if (m.matches()) {
                return n;
            }
            if (m.hitEnd()) {
                may = 0;
            }
        }
        return may;
    }

    int readMesh() {
        String mesh = text.toString();
        for (int at = 0; at < mesh.length(); at++) {
            if (look(mesh.substring(0, at + 1)) < 0) {
                return -100 - at;
            }
        }
        int lamps = mesh.isEmpty() ? 0 : look(mesh);
        if (lamps == 0) {
            return -100 - mesh.length();
        }
        act();
        now.lamps.clear();
        now.links.clear();
        String[] parts = mesh.split(";");
        for (String part : parts[0].split(",")) {
            String[] numbers = part.split("\\*");
            int rate = numbers.length == 2 ? Integer.parseInt(numbers[1]) : 100;
            now.lamps.put(now.lamps.size(), new Lamp(100 * Integer.parseInt(numbers[0]), rate));
        }
        if (parts.length == 2) {
            for (String link : parts[1].split(",")) {
                now.links.add(Set.of(link.charAt(0) - 'a', link.charAt(1) - 'a'));
            }
        }
        now.clamp();
        return lamps;
    }

    int undo() {
        if (history.isEmpty()) {
            return NONE;
        }
        now = history.removeLast();
        return history.size();
    }

    int keep() {
        snapshot = now.copy();
        return now.lamps.size();
    }

    int restore() {
        if (snapshot == null) {
            return NONE;
        }
        act();
        now = snapshot.copy();
        return now.lamps.size();
    }

    int lamp(int lamp, int what) {
        Lamp l = now.lamps.get(lamp);
        if (l == null) {
            return UNKNOWN;
        }
        List<Integer> agree = new ArrayList<>();
        for (int o : now.lit()) {
            if (l.on && now.lamps.get(o).phase == l.phase) {
                agree.add(o);
            }
        }
        int[] told = {l.phase, l.rate, l.on ? 1 : 0, l.deaf, l.blinks, l.latest, bits(now.beside(lamp)),
            bits(now.piece(lamp)), bits(agree), l.pushed};
        return what < 0 || what > 9 ? BAD : told[what];
    }

    int apart(int one, int other) {
        if (!now.lamps.containsKey(one) || !now.lamps.containsKey(other)) {
            return UNKNOWN;
        }
        return now.distance(one, other);
    }

    int next(int what) {
        if (what != 0 && what != 1) {
            return BAD;
        }
        if (now.lit().isEmpty()) {
            return NONE;
        }
        State s = now.copy();
        for (int t = 1; ; t++) {
            Set<Integer> blinked = s.tick();
            if (!blinked.isEmpty()) {
                return what == 0 ? t : bits(blinked);
            }
        }
    }

    int togetherIn() {
        return now.togetherIn();
    }

    int reason() {
        Set<Integer> rates = new HashSet<>();
        for (int n : now.lit()) {
            rates.add(now.lamps.get(n).rate);
        }
        boolean[] holds = {now.together(), now.lit().isEmpty(), now.pieces() > 1, rates.size() > 1, now.settings[1] == 0};
        for (int reason = 0; reason < 5; reason++) {
            if (holds[reason]) {
                return reason;
            }
        }
        return 0;
    }

    int spread() {
        return now.lit().isEmpty() ? NONE : now.spread();
    }

    int ifLinked(int one, int other) {
        if (!now.lamps.containsKey(one) || !now.lamps.containsKey(other)) {
            return UNKNOWN;
        }
        if (one == other) {
            return BAD;
        }
        State s = now.copy();
        s.flip(one, other);
        return s.togetherIn();
    }

    int hub() {
        int best = NONE;
        for (int n : now.lamps.keySet()) {
            if (best == NONE || now.beside(n).size() > now.beside(best).size()) {
                best = n;
            }
        }
        return best;
    }

    int bestLink(int what) {
        if (what < 0 || what > 2) {
            return BAD;
        }
        int[] best = null;
        for (int a : now.lit()) {
            for (int b : now.lit()) {
                if (a < b && !now.linked(a, b)) {
                    State s = now.copy();
                    s.flip(a, b);
                    for (int t = 0; t < 100; t++) {
                        s.tick();
                    }
                    if (best == null || s.spread() < best[2]) {
                        best = new int[] {a, b, s.spread()};
                    }
                }
            }
        }
        return best == null ? NONE : best[what];
    }

    int count(int what) {
        int[] told = {now.tick, now.lamps.size(), now.lit().size(), now.links.size(), now.pieces(), now.blinks,
            now.pushes, now.shared, now.most, now.settings[0], now.settings[1], now.settings[2], history.size(),
            text.length()};
        return what < 0 || what > 13 ? BAD : told[what];
    }
}
