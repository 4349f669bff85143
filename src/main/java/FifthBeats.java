/** A piano tuned by beats: twelve fifths in a ring that does not close by a comma. */
public final class FifthBeats {

    private static final int NOTES = 12;
    private static final int COMMA = 24;
    private static final int FIRST_WOLF = 11;
    private static final int MAJOR_STEPS = 4;
    private static final int MINOR_STEPS = 9;

    private static final int LEAST_NARROW = -10;
    private static final int MOST_NARROW = 20;
    private static final int MOST_OFTEN = 9;
    private static final int MOST_DRIFT = 3;
    private static final int MOST_OFF = 50;
    private static final int LEAST_SPREAD = 2;
    private static final int MOST_SPREAD = 11;
    private static final int MOST_DAYS = 100;
    private static final int MOST_BEATS = 9999;
    private static final int LAST_DAY_LOOKED_AT = 200;

    private static final int FIFTH_CENTS = 702;
    private static final int MAJOR_CENTS = 408;
    private static final int PURE_MAJOR_CENTS = 386;
    private static final int MINOR_CENTS = 294;
    private static final int PURE_MINOR_CENTS = 316;
    private static final int OCTAVE_CENTS = 1200;
    private static final int FIFTH_BEAT_PART = 577;
    private static final int MAJOR_BEAT_PART = 346;

    private static final int FIFTH_WHATS = 5;
    private static final int MAJOR_WHATS = 3;
    private static final int MINOR_WHATS = 2;
    private static final int NOTE_WHATS = 5;
    private static final int KEY_WHATS = 4;
    private static final int COUNT_WHATS = 7;
    private static final int FIRST_FORESEEN = 2;

    private static final long DIGEST_START = 1697;
    private static final long DIGEST_FACTOR = 31;

    /** By the number of a note on the keyboard. */
    private static final int[] SWINGS = {262, 277, 294, 311, 330, 349, 370, 392, 415, 440, 466, 494};

    private final Piano piano;

    /** A second piano, made once, on which is tried what would be: the first one stays as it is. */
    private final Piano trial;

    public FifthBeats() {
        piano = new Piano();
        trial = new Piano();
    }

    // ---- the plan

    public int setFifth(int fifth, int narrow)
            throws IndexOutOfBoundsException, IllegalArgumentException, IllegalStateException {
        checkRing(fifth);
        checkArgument(narrow, LEAST_NARROW, MOST_NARROW);
        checkNotWolf(fifth);
        int before = piano.narrow[fifth];
        piano.plan(fifth, narrow);
        return before;
    }

    public int shift(int fifth) throws IndexOutOfBoundsException {
        checkRing(fifth);
        int before = piano.wolf;
        piano.moveWolf(fifth);
        return before;
    }

    public int spread(int many) throws IllegalArgumentException {
        checkArgument(many, LEAST_SPREAD, MOST_SPREAD);
        int before = piano.wolfNarrow();
        piano.spreadComma(many);
        return before;
    }

    public int setOften(int key, int often) throws IndexOutOfBoundsException, IllegalArgumentException {
        checkRing(key);
        checkArgument(often, 0, MOST_OFTEN);
        int before = piano.often[key];
        piano.often[key] = often;
        return before;
    }

    // ---- strings

    public int setDrift(int note, int drift) throws IndexOutOfBoundsException, IllegalArgumentException {
        checkRing(note);
        checkArgument(drift, -MOST_DRIFT, MOST_DRIFT);
        int before = piano.drift[note];
        piano.drift[note] = drift;
        return before;
    }

    public int tune(int note) throws IndexOutOfBoundsException, IllegalStateException {
        checkRing(note);
        if (!piano.canTune(note)) {
            throw new IllegalStateException("the wolf is ahead of this note");
        }
        return piano.tuneOne(note);
    }

    public int tuneAll() {
        return piano.tuneRound();
    }

    public int sweeten(int third) throws IndexOutOfBoundsException, IllegalStateException {
        checkRing(third);
        int due = piano.offForPureMajor(third);
        if (due < -MOST_OFF || due > MOST_OFF) {
            throw new IllegalStateException("the note would be off by too much");
        }
        piano.off[Math.floorMod(third + MAJOR_STEPS, NOTES)] = due;
        return due;
    }

    public int pass(int days) throws IllegalArgumentException {
        checkArgument(days, 1, MOST_DAYS);
        piano.letPass(days);
        return piano.mostOff();
    }

    // ---- what there is

    public int fifth(int fifth, int what) throws IndexOutOfBoundsException {
        checkRing(fifth);
        checkWhat(what, 0, FIFTH_WHATS);
        return piano.tellFifth(fifth, what);
    }

    public int major(int third, int what) throws IndexOutOfBoundsException {
        checkRing(third);
        checkWhat(what, 0, MAJOR_WHATS);
        return piano.tellMajor(third, what);
    }

    public int minor(int third, int what) throws IndexOutOfBoundsException {
        checkRing(third);
        checkWhat(what, 0, MINOR_WHATS);
        return piano.tellMinor(third, what);
    }

    public int note(int note, int what) throws IndexOutOfBoundsException {
        checkRing(note);
        checkWhat(what, 0, NOTE_WHATS);
        return piano.tellNote(note, what);
    }

    public int key(int key, int what) throws IndexOutOfBoundsException {
        checkRing(key);
        checkWhat(what, 0, KEY_WHATS);
        return piano.tellKey(key, what);
    }

    public int count(int what) throws IndexOutOfBoundsException {
        checkWhat(what, 0, COUNT_WHATS);
        return piano.tellCount(what);
    }

    // ---- what would be

    public int foresee(int days, int what) throws IllegalArgumentException, IndexOutOfBoundsException {
        checkArgument(days, 1, MOST_DAYS);
        checkWhat(what, FIRST_FORESEEN, COUNT_WHATS);
        startTrial();
        trial.letPass(days);
        return trial.tellCount(what);
    }

    public int until(int beats) throws IllegalArgumentException {
        checkArgument(beats, 1, MOST_BEATS);
        startTrial();
        for (int days = 0; days <= LAST_DAY_LOOKED_AT; days++) {
            if (trial.fastestBeats() >= beats) {
                return days;
            }
            trial.letPass(1);
        }
        return -1;
    }

    public int advise() {
        int best = 0;
        int least = costWithWolf(0);
        for (int fifth = 1; fifth < NOTES; fifth++) {
            int cost = costWithWolf(fifth);
            if (cost < least) {
                least = cost;
                best = fifth;
            }
        }
        return best;
    }

    public int temper(int fifth) throws IndexOutOfBoundsException, IllegalStateException {
        checkRing(fifth);
        checkNotWolf(fifth);
        int best = LEAST_NARROW;
        int least = costWithNarrow(fifth, LEAST_NARROW);
        for (int narrow = LEAST_NARROW + 1; narrow <= MOST_NARROW; narrow++) {
            int cost = costWithNarrow(fifth, narrow);
            if (cost < least) {
                least = cost;
                best = narrow;
            }
        }
        return best;
    }

    public int next() {
        int best = -1;
        int least = piano.cost();
        for (int note = 0; note < NOTES; note++) {
            if (piano.canTune(note)) {
                int cost = costWithTuned(note);
                if (cost < least) {
                    least = cost;
                    best = note;
                }
            }
        }
        return best;
    }

    public double mean() {
        int sum = 0;
        for (int key = 0; key < NOTES; key++) {
            sum += piano.sourness(key);
        }
        return (double) sum / NOTES;
    }

    public long digest() {
        long d = DIGEST_START;
        for (int what = 0; what < COUNT_WHATS; what++) {
            d = d * DIGEST_FACTOR + piano.tellCount(what);
        }
        for (int number = 0; number < NOTES; number++) {
            for (int what = 0; what < FIFTH_WHATS; what++) {
                d = d * DIGEST_FACTOR + piano.tellFifth(number, what);
            }
            for (int what = 0; what < MAJOR_WHATS; what++) {
                d = d * DIGEST_FACTOR + piano.tellMajor(number, what);
            }
            for (int what = 0; what < MINOR_WHATS; what++) {
                d = d * DIGEST_FACTOR + piano.tellMinor(number, what);
            }
            for (int what = 0; what < NOTE_WHATS; what++) {
                d = d * DIGEST_FACTOR + piano.tellNote(number, what);
            }
            for (int what = 0; what < KEY_WHATS; what++) {
                d = d * DIGEST_FACTOR + piano.tellKey(number, what);
            }
        }
        return d;
    }

    // ---- checks

    private static void checkRing(int number) {
        if (number < 0 || number >= NOTES) {
            throw new IndexOutOfBoundsException("not a number of the ring");
        }
    }

    private static void checkWhat(int what, int from, int behind) {
        if (what < from || what >= behind) {
            throw new IndexOutOfBoundsException("nothing is told by this number");
        }
    }

    private static void checkArgument(int argument, int least, int most) {
        if (argument < least || argument > most) {
            throw new IllegalArgumentException("the argument is too small or too great");
        }
    }

    private void checkNotWolf(int fifth) {
        if (fifth == piano.wolf) {
            throw new IllegalStateException("this fifth is the wolf");
        }
    }

    // ---- trials

    private void startTrial() {
        for (int k = 0; k < NOTES; k++) {
            trial.narrow[k] = piano.narrow[k];
            trial.off[k] = piano.off[k];
            trial.drift[k] = piano.drift[k];
            trial.often[k] = piano.often[k];
        }
        trial.wolf = piano.wolf;
        trial.day = piano.day;
    }

    private int costWithWolf(int fifth) {
        startTrial();
        trial.moveWolf(fifth);
        return trial.cost();
    }

    private int costWithNarrow(int fifth, int narrow) {
        startTrial();
        trial.plan(fifth, narrow);
        return trial.cost();
    }

    private int costWithTuned(int note) {
        startTrial();
        trial.tuneOne(note);
        return trial.cost();
    }

    /** The piano itself; its methods take any number around the ring. */
    private static final class Piano {

        /** By the plan, the wolf too: after each change it gets what is left. */
        final int[] narrow;
        final int[] off;
        final int[] drift;
        final int[] often;
        int wolf;
        int day;

        Piano() {
            narrow = new int[NOTES];
            off = new int[NOTES];
            drift = new int[NOTES];
            often = new int[NOTES];
            for (int key = 0; key < NOTES; key++) {
                often[key] = 1;
            }
            wolf = FIRST_WOLF;
            day = 0;
            narrow[FIRST_WOLF] = COMMA;
        }

        // ---- the plan

        void plan(int fifth, int cents) {
            narrow[Math.floorMod(fifth, NOTES)] = cents;
            giveWolfTheRest();
        }

        void giveWolfTheRest() {
            int left = COMMA;
            for (int k = 0; k < NOTES; k++) {
                if (k != wolf) {
                    left -= narrow[k];
                }
            }
            narrow[Math.floorMod(wolf, NOTES)] = left;
        }

        int wolfNarrow() {
            return narrow[Math.floorMod(wolf, NOTES)];
        }

        void moveWolf(int fifth) {
            int from = Math.floorMod(wolf, NOTES);
            int to = Math.floorMod(fifth, NOTES);
            int taken = narrow[to];
            narrow[to] = narrow[from];
            narrow[from] = taken;
            wolf = to;
        }

        void spreadComma(int many) {
            if (many < 1) {
                return;
            }
            int share = COMMA / many;
            int more = COMMA % many;
            for (int step = 0; step < NOTES - 1; step++) {
                int cents = step < many ? share : 0;
                narrow[Math.floorMod(wolf + 1 + step, NOTES)] = step < more ? cents + 1 : cents;
            }
            giveWolfTheRest();
        }

        // ---- strings

        boolean canTune(int note) {
            return Math.floorMod(note - 1, NOTES) != wolf;
        }

        int tuneOne(int note) {
            int k = Math.floorMod(note, NOTES);
            int before = off[k];
            off[k] = off[Math.floorMod(k - 1, NOTES)];
            return off[k] - before;
        }

        int tuneRound() {
            int changed = 0;
            for (int step = 2; step <= NOTES; step++) {
                if (tuneOne(wolf + step) != 0) {
                    changed++;
                }
            }
            return changed;
        }

        int offForPureMajor(int third) {
            return off[Math.floorMod(third + MAJOR_STEPS, NOTES)] - majorOff(third);
        }

        void letPass(int days) {
            for (int passed = 0; passed < days; passed++) {
                for (int k = 0; k < NOTES; k++) {
                    off[k] = Math.max(-MOST_OFF, Math.min(MOST_OFF, off[k] + drift[k]));
                }
                day++;
            }
        }

        // ---- what there is

        int narrowness(int fifth) {
            int from = Math.floorMod(fifth, NOTES);
            int to = Math.floorMod(fifth + 1, NOTES);
            return narrow[from] + off[from] - off[to];
        }

        int fifthWidth(int fifth) {
            return FIFTH_CENTS - narrowness(fifth);
        }

        int fifthBeats(int fifth) {
            return swings(fifth) * Math.abs(narrowness(fifth)) * 100 / FIFTH_BEAT_PART;
        }

        int majorOff(int third) {
            int cents = MAJOR_CENTS - PURE_MAJOR_CENTS;
            for (int step = 0; step < MAJOR_STEPS; step++) {
                cents -= narrowness(third + step);
            }
            return cents;
        }

        int majorBeats(int third) {
            return swings(third) * Math.abs(majorOff(third)) * 100 / MAJOR_BEAT_PART;
        }

        int minorWidth(int third) {
            int width = MINOR_CENTS;
            for (int step = MINOR_STEPS; step < NOTES; step++) {
                width += narrowness(third + step);
            }
            return width;
        }

        int keyboardNumber(int note) {
            return Math.floorMod(7 * note, NOTES);
        }

        int swings(int note) {
            return SWINGS[keyboardNumber(note)];
        }

        int height(int note) {
            int cents = 0;
            for (int fifth = 0; fifth < note; fifth++) {
                cents += fifthWidth(fifth);
            }
            return Math.floorMod(cents, OCTAVE_CENTS);
        }

        int sourness(int key) {
            return Math.abs(majorOff(key)) + 2 * Math.abs(narrowness(key));
        }

        int place(int key) {
            int own = sourness(key);
            int place = 1;
            for (int other = 0; other < NOTES; other++) {
                int sour = sourness(other);
                if (sour < own || sour == own && other < key) {
                    place++;
                }
            }
            return place;
        }

        int cost() {
            int sum = 0;
            for (int key = 0; key < NOTES; key++) {
                sum += sourness(key) * often[key];
            }
            return sum;
        }

        int mostMajorOff() {
            int most = 0;
            for (int third = 0; third < NOTES; third++) {
                most = Math.max(most, Math.abs(majorOff(third)));
            }
            return most;
        }

        int pureFifths() {
            int pure = 0;
            for (int fifth = 0; fifth < NOTES; fifth++) {
                if (narrowness(fifth) == 0) {
                    pure++;
                }
            }
            return pure;
        }

        int mostOff() {
            int most = 0;
            for (int note = 0; note < NOTES; note++) {
                most = Math.max(most, Math.abs(off[note]));
            }
            return most;
        }

        int allOff() {
            int sum = 0;
            for (int note = 0; note < NOTES; note++) {
                sum += Math.abs(off[note]);
            }
            return sum;
        }

        int fastestBeats() {
            int fastest = 0;
            for (int fifth = 0; fifth < NOTES; fifth++) {
                if (fifth != wolf) {
                    fastest = Math.max(fastest, fifthBeats(fifth));
                }
            }
            return fastest;
        }

        // ---- what is told, by its number

        int tellFifth(int fifth, int what) {
            int k = Math.floorMod(fifth, NOTES);
            switch (what) {
                case 0: return narrow[k];
                case 1: return narrowness(k);
                case 2: return fifthWidth(k);
                case 3: return fifthBeats(k);
                default: return k == wolf ? 1 : 0;
            }
        }

        int tellMajor(int third, int what) {
            switch (what) {
                case 0: return PURE_MAJOR_CENTS + majorOff(third);
                case 1: return majorOff(third);
                default: return majorBeats(third);
            }
        }

        int tellMinor(int third, int what) {
            int width = minorWidth(third);
            return what == 0 ? width : width - PURE_MINOR_CENTS;
        }

        int tellNote(int note, int what) {
            int k = Math.floorMod(note, NOTES);
            switch (what) {
                case 0: return off[k];
                case 1: return drift[k];
                case 2: return keyboardNumber(k);
                case 3: return swings(k);
                default: return height(k);
            }
        }

        int tellKey(int key, int what) {
            int k = Math.floorMod(key, NOTES);
            switch (what) {
                case 0: return often[k];
                case 1: return sourness(k);
                case 2: return sourness(k) * often[k];
                default: return place(k);
            }
        }

        int tellCount(int what) {
            switch (what) {
                case 0: return day;
                case 1: return wolf;
                case 2: return cost();
                case 3: return mostMajorOff();
                case 4: return pureFifths();
                case 5: return allOff();
                default: return fastestBeats();
            }
        }
    }
}
