/** Meshes of lamps that blink together without a leader. Sets of lamps are told as bits, lamp 0 the lowest. */
public final class BlinkMesh {
    public static final int UNKNOWN = -1;
    public static final int BAD_VALUE = -2;
    public static final int FULL = -3;
    public static final int NONE = -5;

    private static final int MOST_LAMPS = 16;
    private static final int HUNDREDTHS = 100;
    private static final int LEAST_RATE = 50;
    private static final int USUAL_RATE = 100;
    private static final int GREATEST_RATE = 150;
    private static final int GREATEST_TOLD_PHASE = 199;

    private static final int PERIOD = 0;
    private static final int PUSH = 1;
    private static final int DEAF_TICKS = 2;
    private static final int SETTINGS = 3;
    private static final int[] FIRST_SETTING = {100, 10, 2};
    private static final int[] LEAST_SETTING = {10, 0, 0};
    private static final int[] GREATEST_SETTING = {200, 100, 99};

    private static final int MOST_TICKS_A_CALL = 999;
    private static final int LAST_TICK = 99999;
    private static final int SEARCHED_TICKS = 2000;
    private static final int TRIED_TICKS = 100;
    // The longest period at the lowest rate: a lamp that is on blinks within it.
    private static final int LONGEST_WAIT = 400;

    private static final int MOST_CHARACTERS = 60;
    private static final int MOST_DIGITS = 3;
    private static final int MOST_STATES = 4;
    // A readMesh() that fails answers this, less the place of the fault.
    private static final int FAULT = -100;
    private static final int NOT_THERE = -1;

    private final Mesh mesh;
    // Questions that look ahead let the ticks pass here, so that nothing of the mesh changes.
    private final Mesh trial;
    private final Mesh snapshot;
    private boolean hasSnapshot;
    private final History history;
    private final MeshText text;

    public BlinkMesh() {
        mesh = new Mesh();
        trial = new Mesh();
        snapshot = new Mesh();
        hasSnapshot = false;
        history = new History();
        text = new MeshText();
    }

    // ---- lamps, links

    public int come(int phase, int rate) {
        if (!mesh.isWholePhase(phase) || !isRate(rate)) {
            return BAD_VALUE;
        }
        int lamp = mesh.freeNumber();
        if (lamp == NOT_THERE) {
            return FULL;
        }
        history.remember(mesh);
        mesh.place(lamp, phase, rate);
        return lamp;
    }

    public int goAway(int lamp) {
        if (!mesh.has(lamp)) {
            return UNKNOWN;
        }
        history.remember(mesh);
        return mesh.remove(lamp);
    }

    public int turn(int lamp, boolean on) {
        if (!mesh.has(lamp)) {
            return UNKNOWN;
        }
        if (mesh.isOn(lamp) == on) {
            return NONE;
        }
        history.remember(mesh);
        mesh.switchTo(lamp, on);
        return mesh.lampsOn();
    }

    public int link(int one, int other, boolean linked) {
        if (!mesh.has(one) || !mesh.has(other)) {
            return UNKNOWN;
        }
        if (one == other) {
            return BAD_VALUE;
        }
        if (mesh.isLinked(one, other) == linked) {
            return NONE;
        }
        history.remember(mesh);
        mesh.changeLink(one, other, linked);
        return mesh.links();
    }

    public int tune(int lamp, int phase, int rate) {
        if (!mesh.has(lamp)) {
            return UNKNOWN;
        }
        if (!mesh.isWholePhase(phase) || !isRate(rate)) {
            return BAD_VALUE;
        }
        history.remember(mesh);
        return mesh.retune(lamp, phase, rate);
    }

    public int set(int which, int value) {
        if (which < 0 || which >= SETTINGS) {
            return UNKNOWN;
        }
        if (value < LEAST_SETTING[which] || value > GREATEST_SETTING[which]) {
            return BAD_VALUE;
        }
        if (mesh.setting(which) == value) {
            return NONE;
        }
        history.remember(mesh);
        return mesh.changeSetting(which, value);
    }

    public int pass(int ticks) {
        if (ticks < 1 || ticks > MOST_TICKS_A_CALL) {
            return BAD_VALUE;
        }
        if (mesh.tickNumber() + ticks > LAST_TICK) {
            return FULL;
        }
        history.remember(mesh);
        int before = mesh.allBlinks();
        mesh.tickOften(ticks);
        return mesh.allBlinks() - before;
    }

    // ---- texts

    public int type(char character) {
        if (text.isFull()) {
            return FULL;
        }
        text.append(character);
        return text.length();
    }

    public int clearText() {
        int before = text.length();
        text.empty();
        return before;
    }

    public int readMesh() {
        if (!text.parse()) {
            return FAULT - text.fault();
        }
        history.remember(mesh);
        text.build(mesh);
        return mesh.lamps();
    }

    // ---- history

    public int undo() {
        if (history.size() == 0) {
            return NONE;
        }
        history.takeBack(mesh);
        return history.size();
    }

    public int keep() {
        snapshot.copyFrom(mesh);
        hasSnapshot = true;
        return mesh.lamps();
    }

    public int restore() {
        if (!hasSnapshot) {
            return NONE;
        }
        history.remember(mesh);
        mesh.copyFrom(snapshot);
        return mesh.lamps();
    }

    // ---- what is told

    public int lamp(int lamp, int what) {
        if (!mesh.has(lamp)) {
            return UNKNOWN;
        }
        return mesh.tellLamp(lamp, what);
    }

    public int apart(int one, int other) {
        if (!mesh.has(one) || !mesh.has(other)) {
            return UNKNOWN;
        }
        return mesh.distance(one, other);
    }

    public int next(int what) {
        if (what < 0 || what > 1) {
            return BAD_VALUE;
        }
        if (mesh.lampsOn() == 0) {
            return NONE;
        }
        trial.copyFrom(mesh);
        for (int ticks = 1; ticks <= LONGEST_WAIT; ticks++) {
            int blinked = trial.tickOnce();
            if (blinked != 0) {
                return what == 0 ? ticks : blinked;
            }
        }
        return NONE;
    }

    public int togetherIn() {
        trial.copyFrom(mesh);
        return trialTogetherIn();
    }

    public int reason() {
        if (mesh.isTogether()) {
            return 0;
        }
        if (mesh.lampsOn() == 0) {
            return 1;
        }
        if (mesh.pieces() > 1) {
            return 2;
        }
        if (mesh.hasUnlikeRates()) {
            return 3;
        }
        return mesh.setting(PUSH) == 0 ? 4 : 0;
    }

    public int spread() {
        if (mesh.lampsOn() == 0) {
            return NONE;
        }
        return mesh.greatestDistance();
    }

    public int ifLinked(int one, int other) {
        if (!mesh.has(one) || !mesh.has(other)) {
            return UNKNOWN;
        }
        if (one == other) {
            return BAD_VALUE;
        }
        trial.copyFrom(mesh);
        trial.changeLink(one, other, !mesh.isLinked(one, other));
        return trialTogetherIn();
    }

    public int hub() {
        int lamp = mesh.lampWithMostLinks();
        return lamp == NOT_THERE ? NONE : lamp;
    }

    public int bestLink(int what) {
        if (what < 0 || what > 2) {
            return BAD_VALUE;
        }
        int lower = NONE;
        int upper = NONE;
        int least = NONE;
        for (int one = 0; one < MOST_LAMPS; one++) {
            for (int other = one + 1; other < MOST_LAMPS; other++) {
                if (mesh.couldLink(one, other)) {
                    int spread = spreadWith(one, other);
                    if (least == NONE || spread < least) {
                        lower = one;
                        upper = other;
                        least = spread;
                    }
                }
            }
        }
        if (what == 0) {
            return lower;
        }
        return what == 1 ? upper : least;
    }

    public int count(int what) {
        if (what == 12) {
            return history.size();
        }
        if (what == 13) {
            return text.length();
        }
        return mesh.tellMesh(what);
    }

    private static boolean isRate(int rate) {
        return rate >= LEAST_RATE && rate <= GREATEST_RATE;
    }

    private static boolean holds(int lamps, int lamp) {
        return (lamps >> lamp & 1) != 0;
    }

    private int trialTogetherIn() {
        if (trial.lampsOn() == 0) {
            return NONE;
        }
        for (int ticks = 0; ticks < SEARCHED_TICKS; ticks++) {
            if (trial.isTogether()) {
                return ticks;
            }
            trial.tickOnce();
        }
        return trial.isTogether() ? SEARCHED_TICKS : NONE;
    }

    private int spreadWith(int one, int other) {
        trial.copyFrom(mesh);
        trial.changeLink(one, other, true);
        trial.tickOften(TRIED_TICKS);
        return trial.greatestDistance();
    }

    /** A state: everything but the text, the history and the snapshot. Phases are in hundredths here. */
    private static final class Mesh {
        private final int[] phase = new int[MOST_LAMPS];
        private final int[] rate = new int[MOST_LAMPS];
        private final int[] deaf = new int[MOST_LAMPS];
        private final int[] linked = new int[MOST_LAMPS];
        private final int[] blinks = new int[MOST_LAMPS];
        private final int[] latest = new int[MOST_LAMPS];
        private final int[] pushes = new int[MOST_LAMPS];
        private final int[] settings = FIRST_SETTING.clone();
        private int there;
        private int on;
        private int tick;
        private int blinkCount;
        private int pushCount;
        private int sharedTicks;
        private int mostTogether;

        void copyFrom(Mesh from) {
            System.arraycopy(from.phase, 0, phase, 0, MOST_LAMPS);
            System.arraycopy(from.rate, 0, rate, 0, MOST_LAMPS);
            System.arraycopy(from.deaf, 0, deaf, 0, MOST_LAMPS);
            System.arraycopy(from.linked, 0, linked, 0, MOST_LAMPS);
            System.arraycopy(from.blinks, 0, blinks, 0, MOST_LAMPS);
            System.arraycopy(from.latest, 0, latest, 0, MOST_LAMPS);
            System.arraycopy(from.pushes, 0, pushes, 0, MOST_LAMPS);
            System.arraycopy(from.settings, 0, settings, 0, SETTINGS);
            there = from.there;
            on = from.on;
            tick = from.tick;
            blinkCount = from.blinkCount;
            pushCount = from.pushCount;
            sharedTicks = from.sharedTicks;
            mostTogether = from.mostTogether;
        }

        boolean has(int lamp) {
            return lamp >= 0 && lamp < MOST_LAMPS && holds(there, lamp);
        }

        boolean isOn(int lamp) {
            return holds(on, lamp);
        }

        boolean isLinked(int one, int other) {
            return holds(linked[one], other);
        }

        boolean couldLink(int one, int other) {
            return isOn(one) && isOn(other) && !isLinked(one, other);
        }

        boolean isWholePhase(int ticks) {
            return ticks >= 0 && ticks < settings[PERIOD];
        }

        int setting(int which) {
            return settings[which];
        }

        int tickNumber() {
            return tick;
        }

        int allBlinks() {
            return blinkCount;
        }

        int lamps() {
            return Integer.bitCount(there);
        }

        int lampsOn() {
            return Integer.bitCount(on);
        }

        int links() {
            int ends = 0;
            for (int lamp = 0; lamp < MOST_LAMPS; lamp++) {
                ends += Integer.bitCount(linked[lamp]);
            }
            return ends / 2;
        }

        int freeNumber() {
            for (int lamp = 0; lamp < MOST_LAMPS; lamp++) {
                if (!holds(there, lamp)) {
                    return lamp;
                }
            }
            return NOT_THERE;
        }

        void place(int lamp, int wholePhase, int newRate) {
            there |= 1 << lamp;
            on |= 1 << lamp;
            phase[lamp] = wholePhase * HUNDREDTHS;
            rate[lamp] = newRate;
            deaf[lamp] = 0;
            linked[lamp] = 0;
            blinks[lamp] = 0;
            latest[lamp] = 0;
            pushes[lamp] = 0;
        }

        int remove(int lamp) {
            int lost = Integer.bitCount(linked[lamp]);
            int others = ~(1 << lamp);
            there &= others;
            on &= others;
            linked[lamp] = 0;
            for (int other = 0; other < MOST_LAMPS; other++) {
                linked[other] &= others;
            }
            return lost;
        }

        void removeAll() {
            there = 0;
            on = 0;
            for (int lamp = 0; lamp < MOST_LAMPS; lamp++) {
                linked[lamp] = 0;
            }
        }

        void switchTo(int lamp, boolean lit) {
            if (lit) {
                on |= 1 << lamp;
            } else {
                on &= ~(1 << lamp);
            }
        }

        void changeLink(int one, int other, boolean link) {
            if (link) {
                linked[one] |= 1 << other;
                linked[other] |= 1 << one;
            } else {
                linked[one] &= ~(1 << other);
                linked[other] &= ~(1 << one);
            }
        }

        int retune(int lamp, int wholePhase, int newRate) {
            int before = phase[lamp];
            phase[lamp] = wholePhase * HUNDREDTHS;
            rate[lamp] = newRate;
            return before;
        }

        int changeSetting(int which, int value) {
            int before = settings[which];
            settings[which] = value;
            fitPhases();
            return before;
        }

        void fitPhases() {
            for (int lamp = 0; lamp < MOST_LAMPS; lamp++) {
                phase[lamp] = Math.min(phase[lamp], fullPhase() - 1);
            }
        }

        private int fullPhase() {
            return settings[PERIOD] * HUNDREDTHS;
        }

        void tickOften(int ticks) {
            for (int passed = 0; passed < ticks; passed++) {
                tickOnce();
            }
        }

        /** Returns the lamps that blinked. */
        int tickOnce() {
            int blinked = 0;
            int fresh = grow();
            // Each round but the last has a lamp that had not blinked before.
            for (int round = 0; round < MOST_LAMPS && fresh != 0; round++) {
                blinked |= fresh;
                blink(fresh);
                fresh = pushFrom(fresh, on & ~blinked);
            }
            tick++;
            account(Integer.bitCount(blinked));
            return blinked;
        }

        /** Returns the lamps whose phase is full then. */
        private int grow() {
            int full = fullPhase();
            int ripe = 0;
            for (int lamp = 0; lamp < MOST_LAMPS; lamp++) {
                if (holds(on, lamp)) {
                    phase[lamp] += rate[lamp];
                    if (deaf[lamp] > 0) {
                        deaf[lamp]--;
                    }
                    if (phase[lamp] >= full) {
                        ripe |= 1 << lamp;
                    }
                }
            }
            return ripe;
        }

        private void blink(int lamps) {
            for (int lamp = 0; lamp < MOST_LAMPS; lamp++) {
                if (holds(lamps, lamp)) {
                    phase[lamp] = 0;
                    deaf[lamp] = settings[DEAF_TICKS];
                    blinks[lamp]++;
                    // The tick that passes is counted only at its end.
                    latest[lamp] = tick + 1;
                }
            }
        }

        /** Returns the pushed lamps whose phase is full then. */
        private int pushFrom(int blinking, int waiting) {
            int ripe = 0;
            for (int lamp = 0; lamp < MOST_LAMPS; lamp++) {
                if (holds(blinking, lamp)) {
                    ripe |= pushAll(linked[lamp] & waiting);
                }
            }
            return ripe;
        }

        private int pushAll(int lamps) {
            int full = fullPhase();
            int ripe = 0;
            for (int lamp = 0; lamp < MOST_LAMPS; lamp++) {
                if (holds(lamps, lamp) && deaf[lamp] == 0) {
                    int grown = phase[lamp] + phase[lamp] * settings[PUSH] / 100;
                    phase[lamp] = Math.min(grown, full);
                    pushes[lamp]++;
                    pushCount++;
                    if (grown >= full) {
                        ripe |= 1 << lamp;
                    }
                }
            }
            return ripe;
        }

        private void account(int blinked) {
            blinkCount += blinked;
            if (blinked >= 2) {
                sharedTicks++;
                mostTogether = Math.max(mostTogether, blinked);
            }
        }

        int distance(int one, int other) {
            int difference = Math.abs(phase[one] - phase[other]);
            return Math.min(difference, fullPhase() - difference);
        }

        int greatestDistance() {
            int greatest = 0;
            for (int one = 0; one < MOST_LAMPS; one++) {
                for (int other = one + 1; other < MOST_LAMPS; other++) {
                    if (isOn(one) && isOn(other)) {
                        greatest = Math.max(greatest, distance(one, other));
                    }
                }
            }
            return greatest;
        }

        boolean isTogether() {
            int first = NOT_THERE;
            for (int lamp = 0; lamp < MOST_LAMPS; lamp++) {
                if (holds(on, lamp)) {
                    if (first == NOT_THERE) {
                        first = lamp;
                    } else if (phase[lamp] != phase[first]) {
                        return false;
                    }
                }
            }
            return on != 0;
        }

        boolean hasUnlikeRates() {
            int first = NOT_THERE;
            for (int lamp = 0; lamp < MOST_LAMPS; lamp++) {
                if (holds(on, lamp)) {
                    if (first == NOT_THERE) {
                        first = lamp;
                    } else if (rate[lamp] != rate[first]) {
                        return true;
                    }
                }
            }
            return false;
        }

        private int pieceOf(int lamp) {
            int piece = on & 1 << lamp;
            // Each round but the last adds a lamp.
            for (int round = 0; round < MOST_LAMPS; round++) {
                int wider = piece | neighbours(piece);
                if (wider == piece) {
                    return piece;
                }
                piece = wider;
            }
            return piece;
        }

        private int neighbours(int lamps) {
            int beside = 0;
            for (int lamp = 0; lamp < MOST_LAMPS; lamp++) {
                if (holds(lamps, lamp)) {
                    beside |= linked[lamp] & on;
                }
            }
            return beside;
        }

        int pieces() {
            int found = 0;
            int seen = 0;
            for (int lamp = 0; lamp < MOST_LAMPS; lamp++) {
                if (holds(on & ~seen, lamp)) {
                    seen |= pieceOf(lamp);
                    found++;
                }
            }
            return found;
        }

        private int agreeing(int lamp) {
            if (!isOn(lamp)) {
                return 0;
            }
            int lamps = 0;
            for (int other = 0; other < MOST_LAMPS; other++) {
                if (isOn(other) && phase[other] == phase[lamp]) {
                    lamps |= 1 << other;
                }
            }
            return lamps;
        }

        int lampWithMostLinks() {
            int best = NOT_THERE;
            int most = NOT_THERE;
            for (int lamp = 0; lamp < MOST_LAMPS; lamp++) {
                int own = Integer.bitCount(linked[lamp]);
                if (holds(there, lamp) && own > most) {
                    best = lamp;
                    most = own;
                }
            }
            return best;
        }

        int tellLamp(int lamp, int what) {
            switch (what) {
                case 0: return phase[lamp];
                case 1: return rate[lamp];
                case 2: return isOn(lamp) ? 1 : 0;
                case 3: return deaf[lamp];
                case 4: return blinks[lamp];
                case 5: return latest[lamp];
                case 6: return linked[lamp];
                case 7: return pieceOf(lamp);
                case 8: return agreeing(lamp);
                case 9: return pushes[lamp];
                default: return BAD_VALUE;
            }
        }

        int tellMesh(int what) {
            switch (what) {
                case 0: return tick;
                case 1: return lamps();
                case 2: return lampsOn();
                case 3: return links();
                case 4: return pieces();
                case 5: return blinkCount;
                case 6: return pushCount;
                case 7: return sharedTicks;
                case 8: return mostTogether;
                case 9: return settings[PERIOD];
                case 10: return settings[PUSH];
                case 11: return settings[DEAF_TICKS];
                default: return BAD_VALUE;
            }
        }
    }

    /** The latest states, the oldest first. */
    private static final class History {
        private final Mesh[] states = new Mesh[MOST_STATES];
        private int kept;

        History() {
            for (int state = 0; state < MOST_STATES; state++) {
                states[state] = new Mesh();
            }
        }

        int size() {
            return kept;
        }

        void remember(Mesh mesh) {
            if (kept >= MOST_STATES) {
                dropOldest();
            }
            states[kept].copyFrom(mesh);
            kept++;
        }

        private void dropOldest() {
            // The dropped one's rows serve again, so that no call makes objects.
            Mesh oldest = states[0];
            for (int state = 1; state < MOST_STATES; state++) {
                states[state - 1] = states[state];
            }
            states[MOST_STATES - 1] = oldest;
            kept = MOST_STATES - 1;
        }

        void takeBack(Mesh mesh) {
            if (kept > 0) {
                kept--;
                mesh.copyFrom(states[kept]);
            }
        }
    }

    /** The text, and the mesh that the latest parse() found in it. */
    private static final class MeshText {
        private static final int END = -1;

        private final char[] characters = new char[MOST_CHARACTERS];
        private int length;
        // Where parse() reads; if it fails, the first character that is not allowed.
        private int place;
        private final int[] phase = new int[MOST_LAMPS];
        private final int[] rate = new int[MOST_LAMPS];
        private int lampCount;
        private final int[] linked = new int[MOST_LAMPS];

        int length() {
            return length;
        }

        int fault() {
            return place;
        }

        boolean isFull() {
            return length >= MOST_CHARACTERS;
        }

        void append(char character) {
            if (length < MOST_CHARACTERS) {
                characters[length] = character;
                length++;
            }
        }

        void empty() {
            length = 0;
        }

        /** Puts the lamps and links that parse() found in place of those of the mesh. */
        void build(Mesh mesh) {
            mesh.removeAll();
            for (int lamp = 0; lamp < MOST_LAMPS && lamp < lampCount; lamp++) {
                mesh.place(lamp, phase[lamp], rate[lamp]);
            }
            for (int one = 0; one < MOST_LAMPS; one++) {
                for (int other = one + 1; other < MOST_LAMPS; other++) {
                    if (holds(linked[one], other)) {
                        mesh.changeLink(one, other, true);
                    }
                }
            }
            mesh.fitPhases();
        }

        /** Returns whether the text has no fault. */
        boolean parse() {
            place = 0;
            lampCount = 0;
            for (int lamp = 0; lamp < MOST_LAMPS; lamp++) {
                linked[lamp] = 0;
            }
            if (!parseLamps()) {
                return false;
            }
            if (current() == END) {
                return true;
            }
            return lampCount >= 2 && skip(';') && parseLinks();
        }

        /** Stops behind a lamp that no other one can follow, or at a fault. */
        private boolean parseLamps() {
            for (int lamp = 0; lamp < MOST_LAMPS; lamp++) {
                if (!parseLamp(lamp)) {
                    return false;
                }
                lampCount = lamp + 1;
                if (lampCount < MOST_LAMPS && !skip(',')) {
                    return true;
                }
            }
            return true;
        }

        private boolean parseLamp(int lamp) {
            phase[lamp] = parseNumber(0, GREATEST_TOLD_PHASE);
            rate[lamp] = USUAL_RATE;
            if (phase[lamp] != NOT_THERE && skip('*')) {
                rate[lamp] = parseNumber(LEAST_RATE, GREATEST_RATE);
            }
            return phase[lamp] != NOT_THERE && rate[lamp] != NOT_THERE;
        }

        /** Stops behind the number's last digit, or at a fault. */
        private int parseNumber(int least, int greatest) {
            int number = NOT_THERE;
            for (int digits = 0; digits < MOST_DIGITS; digits++) {
                int digit = current() - '0';
                if (digit < 0 || digit > 9 || number == 0) {
                    break;
                }
                int longer = digits == 0 ? digit : number * 10 + digit;
                if (!begins(longer, least, greatest)) {
                    return NOT_THERE;
                }
                number = longer;
                place++;
            }
            return number < least ? NOT_THERE : number;
        }

        /** Whether a number in the range begins with these digits. */
        private static boolean begins(int digits, int least, int greatest) {
            if (digits == 0) {
                return least == 0;
            }
            int lowest = digits;
            int highest = digits;
            for (int more = 0; more < MOST_DIGITS; more++) {
                if (lowest <= greatest && highest >= least) {
                    return true;
                }
                lowest = lowest * 10;
                highest = highest * 10 + 9;
            }
            return false;
        }

        private boolean parseLinks() {
            for (int links = 0; links < MOST_CHARACTERS; links++) {
                if (!parseLink()) {
                    return false;
                }
                if (current() == END) {
                    return true;
                }
                if (!skip(',')) {
                    return false;
                }
            }
            return false;
        }

        private boolean parseLink() {
            int one = parseLetter(NOT_THERE);
            if (one == NOT_THERE) {
                return false;
            }
            int other = parseLetter(one);
            if (other == NOT_THERE) {
                return false;
            }
            linked[one] |= 1 << other;
            linked[other] |= 1 << one;
            return true;
        }

        private int parseLetter(int notThis) {
            int lamp = current() - 'a';
            if (lamp < 0 || lamp >= lampCount || lamp == notThis) {
                return NOT_THERE;
            }
            place++;
            return lamp;
        }

        private int current() {
            if (place < 0 || place >= length || place >= MOST_CHARACTERS) {
                return END;
            }
            return characters[place];
        }

        private boolean skip(char character) {
            if (current() != character) {
                return false;
            }
            place++;
            return true;
        }
    }
}
