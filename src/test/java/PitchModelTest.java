import java.util.Arrays;

/**
 * Long runs of calls against a second piano that is reckoned another way: by the heights of the
 * notes over the note 0, from which every width is a difference.
 */
public final class PitchModelTest {

    private static final int RUNS = 400;
    private static final int CALLS = 512;
    private static final int[] SWINGS = {262, 277, 294, 311, 330, 349, 370, 392, 415, 440, 466, 494};

    private static long seed = 1;

    private static int random(int bound) {
        seed = seed * 6364136223846793005L + 1442695040888963407L;
        return (int) ((seed >>> 33) % bound);
    }

    private static int within(int least, int most) {
        return least + random(most - least + 1);
    }

    /** Mostly within, at times at an edge or outside. */
    private static int about(int least, int most) {
        switch (random(40)) {
            case 0: return least - 1;
            case 1: return most + 1;
            case 2: return Integer.MIN_VALUE;
            case 3: return Integer.MAX_VALUE;
            case 4: return least;
            case 5: return most;
            default: return within(least, most);
        }
    }

    private static final class Model {
        int[] own = new int[12];
        int wolf = 11;
        int[] off = new int[12];
        int[] drift = new int[12];
        int[] often = {1, 1, 1, 1, 1, 1, 1, 1, 1, 1, 1, 1};
        int day = 0;

        Model copy() {
            Model m = new Model();
            m.own = own.clone();
            m.wolf = wolf;
            m.off = off.clone();
            m.drift = drift.clone();
            m.often = often.clone();
            m.day = day;
            return m;
        }

        int plan(int k) {
            if (k != wolf) {
                return own[k];
            }
            int others = 0;
            for (int j = 1; j < 12; j++) {
                others += own[(wolf + j) % 12];
            }
            return 24 - others;
        }

        /** In cents over the plan's note 0, for 0 to 23: seven octaves up behind the note 11. */
        int height(int k) {
            int cents = k / 12 * 8400 + off[k % 12];
            for (int j = 0; j < k % 12; j++) {
                cents += 702 - plan(j);
            }
            return cents;
        }

        int narrowness(int k) {
            return 702 - (height(k + 1) - height(k));
        }

        int major(int k) {
            return height(k + 4) - height(k) - 2400;
        }

        int minor(int k) {
            return height(k + 9) - height(k) - 6000;
        }

        int swings(int k) {
            return SWINGS[7 * k % 12];
        }

        int sour(int k) {
            return Math.abs(major(k) - 386) + Math.abs(2 * narrowness(k));
        }

        int cost() {
            int sum = 0;
            for (int k = 0; k < 12; k++) {
                sum += sour(k) * often[k];
            }
            return sum;
        }

        int place(int key) {
            int[] order = new int[12];
            for (int k = 0; k < 12; k++) {
                order[k] = sour(k) * 12 + k;
            }
            int own = order[key];
            Arrays.sort(order);
            return Arrays.binarySearch(order, own) + 1;
        }

        int fifth(int k, int what) {
            int[] told = {plan(k), narrowness(k), height(k + 1) - height(k),
                (int) (swings(k) * 100L * Math.abs(narrowness(k)) / 577), k == wolf ? 1 : 0};
            return told[what];
        }

        int majorTold(int k, int what) {
            int[] told = {major(k), major(k) - 386,
                (int) (swings(k) * 100L * Math.abs(major(k) - 386) / 346)};
            return told[what];
        }

        int note(int k, int what) {
            int[] told = {off[k], drift[k], 7 * k % 12, swings(k),
                Math.floorMod(height(k) - height(0), 1200)};
            return told[what];
        }

        int key(int k, int what) {
            int[] told = {often[k], sour(k), sour(k) * often[k], place(k)};
            return told[what];
        }

        int count(int what) {
            int most = 0;
            int pure = 0;
            int allOff = 0;
            int fastest = 0;
            for (int k = 0; k < 12; k++) {
                most = Math.max(most, Math.abs(major(k) - 386));
                pure += height(k + 1) - height(k) == 702 ? 1 : 0;
                allOff += Math.abs(off[k]);
                if (k != wolf) {
                    fastest = Math.max(fastest, fifth(k, 3));
                }
            }
            int[] told = {day, wolf, cost(), most, pure, allOff, fastest};
            return told[what];
        }

        Model behind(int days) {
            Model m = copy();
            for (int k = 0; k < 12; k++) {
                m.off[k] = Math.max(-50, Math.min(50, off[k] + days * drift[k]));
            }
            m.day += days;
            return m;
        }

        Model shifted(int to) {
            Model m = copy();
            m.own[wolf] = plan(to);
            m.wolf = to;
            return m;
        }

        Model tempered(int fifth, int narrow) {
            Model m = copy();
            m.own[fifth] = narrow;
            return m;
        }

        Model tuned(int note) {
            Model m = copy();
            m.off[note] = off[(note + 11) % 12];
            return m;
        }

        void become(Model m) {
            own = m.own;
            wolf = m.wolf;
            off = m.off;
            day = m.day;
        }

        int spread(int many) {
            int before = plan(wolf);
            for (int j = 1; j < 12; j++) {
                own[(wolf + j) % 12] = j > many ? 0 : 24 / many + (j <= 24 % many ? 1 : 0);
            }
            return before;
        }

        int tuneAll() {
            int changed = 0;
            int from = off[(wolf + 1) % 12];
            int[] before = off.clone();
            Arrays.fill(off, from);
            for (int k = 0; k < 12; k++) {
                changed += before[k] != from ? 1 : 0;
            }
            return changed;
        }

        int sweeten(int k) {
            int upper = (k + 4) % 12;
            int due = off[upper] - (major(k) - 386);
            if (Math.abs(due) > 50) {
                throw new IllegalStateException();
            }
            off[upper] = due;
            return due;
        }

        int until(int beats) {
            for (int days = 0; days <= 200; days++) {
                if (behind(days).count(6) >= beats) {
                    return days;
                }
            }
            return -1;
        }

        int advise() {
            int best = 0;
            for (int k = 0; k < 12; k++) {
                best = shifted(k).cost() < shifted(best).cost() ? k : best;
            }
            return best;
        }

        int temper(int fifth) {
            int best = -10;
            for (int n = -10; n <= 20; n++) {
                best = tempered(fifth, n).cost() < tempered(fifth, best).cost() ? n : best;
            }
            return best;
        }

        int next() {
            int best = -1;
            int least = cost();
            for (int k = 0; k < 12; k++) {
                if (k != (wolf + 1) % 12 && tuned(k).cost() < least) {
                    best = k;
                    least = tuned(k).cost();
                }
            }
            return best;
        }

        long mean() {
            int sum = 0;
            for (int k = 0; k < 12; k++) {
                sum += sour(k);
            }
            return Double.doubleToLongBits(sum / 12.0);
        }

        long digest() {
            long d = 1697;
            for (int what = 0; what < 7; what++) {
                d = d * 31 + count(what);
            }
            for (int k = 0; k < 12; k++) {
                for (int what = 0; what < 5; what++) {
                    d = d * 31 + fifth(k, what);
                }
                for (int what = 0; what < 3; what++) {
                    d = d * 31 + majorTold(k, what);
                }
                d = d * 31 + minor(k);
                d = d * 31 + minor(k) - 316;
                for (int what = 0; what < 5; what++) {
                    d = d * 31 + note(k, what);
                }
                for (int what = 0; what < 4; what++) {
                    d = d * 31 + key(k, what);
                }
            }
            return d;
        }
    }

    private static void index(boolean fine) {
        if (!fine) {
            throw new IndexOutOfBoundsException();
        }
    }

    private static void argument(boolean fine) {
        if (!fine) {
            throw new IllegalArgumentException();
        }
    }

    private static void state(boolean fine) {
        if (!fine) {
            throw new IllegalStateException();
        }
    }

    private static boolean in(int x, int least, int most) {
        return x >= least && x <= most;
    }

    private static final String[] CALL_NAMES = {"setFifth", "shift", "spread", "setOften", "setDrift", "tune",
        "tuneAll", "sweeten", "pass", "fifth", "major", "minor", "note", "key", "count", "foresee", "until",
        "advise", "temper", "next", "mean", "digest"};

    private static int[] arguments(int call) {
        switch (call) {
            case 0: return new int[] {about(0, 11), about(-10, 20)};
            case 2: return new int[] {about(2, 11), 0};
            case 3: return new int[] {about(0, 11), about(0, 9)};
            case 4: return new int[] {about(0, 11), about(-3, 3)};
            case 8: return new int[] {random(4) == 0 ? about(1, 100) : about(1, 9), 0};
            case 9: case 12: return new int[] {about(0, 11), about(0, 4)};
            case 10: return new int[] {about(0, 11), about(0, 2)};
            case 11: return new int[] {about(0, 11), about(0, 1)};
            case 13: return new int[] {about(0, 11), about(0, 3)};
            case 14: return new int[] {about(0, 6), 0};
            case 15: return new int[] {about(1, 100), about(2, 6)};
            case 16: return new int[] {about(1, random(3) == 0 ? 9999 : 4000), 0};
            default: return new int[] {about(0, 11), 0};
        }
    }

    private static long ask(FifthBeats x, int call, int a, int b) {
        switch (call) {
            case 0: return x.setFifth(a, b);
            case 1: return x.shift(a);
            case 2: return x.spread(a);
            case 3: return x.setOften(a, b);
            case 4: return x.setDrift(a, b);
            case 5: return x.tune(a);
            case 6: return x.tuneAll();
            case 7: return x.sweeten(a);
            case 8: return x.pass(a);
            case 9: return x.fifth(a, b);
            case 10: return x.major(a, b);
            case 11: return x.minor(a, b);
            case 12: return x.note(a, b);
            case 13: return x.key(a, b);
            case 14: return x.count(a);
            case 15: return x.foresee(a, b);
            case 16: return x.until(a);
            case 17: return x.advise();
            case 18: return x.temper(a);
            case 19: return x.next();
            case 20: return Double.doubleToLongBits(x.mean());
            default: return x.digest();
        }
    }

    private static long change(Model m, int call, int a, int b) {
        int before;
        switch (call) {
            case 0:
                index(in(a, 0, 11));
                argument(in(b, -10, 20));
                state(a != m.wolf);
                before = m.own[a];
                m.own[a] = b;
                return before;
            case 1:
                index(in(a, 0, 11));
                before = m.wolf;
                m.become(m.shifted(a));
                return before;
            case 2:
                argument(in(a, 2, 11));
                return m.spread(a);
            case 3:
                index(in(a, 0, 11));
                argument(in(b, 0, 9));
                before = m.often[a];
                m.often[a] = b;
                return before;
            case 4:
                index(in(a, 0, 11));
                argument(in(b, -3, 3));
                before = m.drift[a];
                m.drift[a] = b;
                return before;
            case 5:
                index(in(a, 0, 11));
                state(a != (m.wolf + 1) % 12);
                before = m.off[a];
                m.become(m.tuned(a));
                return m.off[a] - before;
            case 6:
                return m.tuneAll();
            case 7:
                index(in(a, 0, 11));
                return m.sweeten(a);
            default:
                argument(in(a, 1, 100));
                m.become(m.behind(a));
                int most = 0;
                for (int cents : m.off) {
                    most = Math.max(most, Math.abs(cents));
                }
                return most;
        }
    }

    private static long tell(Model m, int call, int a, int b) {
        switch (call) {
            case 9:
                index(in(a, 0, 11) && in(b, 0, 4));
                return m.fifth(a, b);
            case 10:
                index(in(a, 0, 11) && in(b, 0, 2));
                return m.majorTold(a, b);
            case 11:
                index(in(a, 0, 11) && in(b, 0, 1));
                return b == 0 ? m.minor(a) : m.minor(a) - 316;
            case 12:
                index(in(a, 0, 11) && in(b, 0, 4));
                return m.note(a, b);
            case 13:
                index(in(a, 0, 11) && in(b, 0, 3));
                return m.key(a, b);
            case 14:
                index(in(a, 0, 6));
                return m.count(a);
            case 15:
                argument(in(a, 1, 100));
                index(in(b, 2, 6));
                return m.behind(a).count(b);
            case 16:
                argument(in(a, 1, 9999));
                return m.until(a);
            case 17:
                return m.advise();
            case 18:
                index(in(a, 0, 11));
                state(a != m.wolf);
                return m.temper(a);
            case 19:
                return m.next();
            case 20:
                return m.mean();
            default:
                return m.digest();
        }
    }

    private static String answer(FifthBeats x, int call, int a, int b) {
        try {
            return Long.toString(ask(x, call, a, b));
        } catch (RuntimeException e) {
            return "throws." + e.getClass().getSimpleName();
        }
    }

    private static String due(Model m, int call, int a, int b) {
        try {
            return Long.toString(call <= 8 ? change(m, call, a, b) : tell(m, call, a, b));
        } catch (RuntimeException e) {
            return "throws." + e.getClass().getSimpleName();
        }
    }

    private static boolean runIsFine(int run) {
        FifthBeats x = new FifthBeats();
        Model m = new Model();
        seed = run;
        for (int n = 0; n < CALLS / 2; n++) {
            int call = random(CALL_NAMES.length);
            int[] arguments = arguments(call);
            String got = answer(x, call, arguments[0], arguments[1]);
            String want = due(m, call, arguments[0], arguments[1]);
            if (!got.equals(want) || x.digest() != m.digest()) {
                System.out.println("run " + run + ", call " + n + ": " + CALL_NAMES[call]
                    + Arrays.toString(arguments) + " answered " + got + ", due is " + want
                    + "; digest() is " + x.digest() + ", due is " + m.digest());
                return false;
            }
        }
        return true;
    }

    public static void main(String[] args) {
        int wrong = 0;
        for (int run = 1; run <= RUNS; run++) {
            if (!runIsFine(run)) {
                wrong++;
            }
        }
        System.out.println(wrong == 0 ? RUNS + " runs are as due" : wrong + " runs are not as due");
        if (wrong != 0) {
            System.exit(1);
        }
    }
}
