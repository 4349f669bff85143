/** Each promise by itself: ordinary inputs, edges and wrong inputs, with answers worked out by hand. */
public final class PromisesTest {

    private interface Call {
        long answer();
    }

    private static final int[] BELOW_AND_ABOVE_RING = {-1, 12, -12, Integer.MIN_VALUE, Integer.MAX_VALUE};
    private static final Class<?> INDEX = IndexOutOfBoundsException.class;
    private static final Class<?> ARGUMENT = IllegalArgumentException.class;
    private static final Class<?> STATE = IllegalStateException.class;

    private static int promise = 0;
    private static int wrong = 0;

    private static void report(String text) {
        wrong++;
        System.out.println("promise " + promise + ": " + text);
    }

    private static void due(String call, long got, long want) {
        if (got != want) {
            report(call + " answered " + got + ", due is " + want);
        }
    }

    private static void dueRow(String call, int[] got, int... want) {
        if (!java.util.Arrays.equals(got, want)) {
            report(call + " answered " + java.util.Arrays.toString(got)
                + ", due is " + java.util.Arrays.toString(want));
        }
    }

    /** The very exception is due, and that nothing is changed by the call. */
    private static void dueThrow(FifthBeats x, String text, Class<?> exception, Call call) {
        long before = x.digest();
        try {
            long got = call.answer();
            report(text + " answered " + got + ", due is " + exception.getSimpleName());
        } catch (RuntimeException e) {
            if (e.getClass() != exception) {
                report(text + " threw " + e + ", due is " + exception.getSimpleName());
            }
        }
        due("digest() behind " + text, x.digest(), before);
    }

    private static int[] fifths(FifthBeats x, int what) {
        int[] row = new int[12];
        for (int k = 0; k < 12; k++) {
            row[k] = x.fifth(k, what);
        }
        return row;
    }

    private static int[] majors(FifthBeats x, int what) {
        int[] row = new int[12];
        for (int k = 0; k < 12; k++) {
            row[k] = x.major(k, what);
        }
        return row;
    }

    private static int[] minors(FifthBeats x, int what) {
        int[] row = new int[12];
        for (int k = 0; k < 12; k++) {
            row[k] = x.minor(k, what);
        }
        return row;
    }

    private static int[] notes(FifthBeats x, int what) {
        int[] row = new int[12];
        for (int k = 0; k < 12; k++) {
            row[k] = x.note(k, what);
        }
        return row;
    }

    private static int[] keys(FifthBeats x, int what) {
        int[] row = new int[12];
        for (int k = 0; k < 12; k++) {
            row[k] = x.key(k, what);
        }
        return row;
    }

    private static int[] counts(FifthBeats x) {
        int[] row = new int[7];
        for (int what = 0; what < 7; what++) {
            row[what] = x.count(what);
        }
        return row;
    }

    /** A piano on the day 3 with notes off: 0 by 3, 1 by -6, 5 by 9, all drifts 0 again. */
    private static FifthBeats offPiano() {
        FifthBeats x = new FifthBeats();
        x.setDrift(0, 1);
        x.setDrift(1, -2);
        x.setDrift(5, 3);
        x.pass(3);
        x.setDrift(0, 0);
        x.setDrift(1, 0);
        x.setDrift(5, 0);
        return x;
    }

    private static void playOnly(FifthBeats x, int key, int often) {
        for (int k = 0; k < 12; k++) {
            x.setOften(k, k == key ? often : 0);
        }
    }

    /** Lets one note be off by so many cents (a multiple of 3); its drift is 0 then. */
    private static void putOff(FifthBeats x, int note, int cents) {
        x.setDrift(note, cents < 0 ? -3 : 3);
        x.pass(Math.abs(cents) / 3);
        x.setDrift(note, 0);
    }

    private static void promise1NewObject() {
        promise = 1;
        FifthBeats x = new FifthBeats();
        dueRow("fifth(k, 0)", fifths(x, 0), 0, 0, 0, 0, 0, 0, 0, 0, 0, 0, 0, 24);
        dueRow("fifth(k, 4)", fifths(x, 4), 0, 0, 0, 0, 0, 0, 0, 0, 0, 0, 0, 1);
        dueRow("note(k, 0)", notes(x, 0), 0, 0, 0, 0, 0, 0, 0, 0, 0, 0, 0, 0);
        dueRow("note(k, 1)", notes(x, 1), 0, 0, 0, 0, 0, 0, 0, 0, 0, 0, 0, 0);
        dueRow("key(k, 0)", keys(x, 0), 1, 1, 1, 1, 1, 1, 1, 1, 1, 1, 1, 1);
        dueRow("count", counts(x), 0, 11, 232, 22, 11, 0, 0);
        x.setFifth(3, 9);
        x.pass(5);
        due("count(0) of another", new FifthBeats().count(0), 0);
        due("fifth(3, 0) of another", new FifthBeats().fifth(3, 0), 0);
    }

    private static void promise2SetFifth() {
        promise = 2;
        FifthBeats x = new FifthBeats();
        due("setFifth(0, 5)", x.setFifth(0, 5), 0);
        due("setFifth(0, -10)", x.setFifth(0, -10), 5);
        due("fifth(11, 0)", x.fifth(11, 0), 34);
        due("setFifth(0, 20)", x.setFifth(0, 20), -10);
        due("setFifth(10, 7)", x.setFifth(10, 7), 0);
        dueRow("fifth(k, 0)", fifths(x, 0), 20, 0, 0, 0, 0, 0, 0, 0, 0, 0, 7, -3);
        for (int fifth : BELOW_AND_ABOVE_RING) {
            dueThrow(x, "setFifth(" + fifth + ", 0)", INDEX, () -> x.setFifth(fifth, 0));
        }
        for (int narrow : new int[] {-11, 21, Integer.MIN_VALUE, Integer.MAX_VALUE}) {
            dueThrow(x, "setFifth(4, " + narrow + ")", ARGUMENT, () -> x.setFifth(4, narrow));
        }
        dueThrow(x, "setFifth(11, 5)", STATE, () -> x.setFifth(11, 5));
        dueThrow(x, "setFifth(11, 21)", ARGUMENT, () -> x.setFifth(11, 21));
        dueThrow(x, "setFifth(12, 21)", INDEX, () -> x.setFifth(12, 21));
        for (int k = 0; k < 11; k++) {
            x.setFifth(k, 20);
        }
        due("fifth(11, 0) behind all 20", x.fifth(11, 0), -196);
        for (int k = 0; k < 11; k++) {
            x.setFifth(k, -10);
        }
        due("fifth(11, 0) behind all -10", x.fifth(11, 0), 134);
        x.shift(4);
        due("setFifth(11, 1) behind shift(4)", x.setFifth(11, 1), -10);
        dueThrow(x, "setFifth(4, 1) behind shift(4)", STATE, () -> x.setFifth(4, 1));
    }

    private static void promise3Shift() {
        promise = 3;
        FifthBeats x = offPiano();
        x.setFifth(2, 4);
        due("shift(2)", x.shift(2), 11);
        dueRow("fifth(k, 0)", fifths(x, 0), 0, 0, 20, 0, 0, 0, 0, 0, 0, 0, 0, 4);
        dueRow("fifth(k, 4)", fifths(x, 4), 0, 0, 1, 0, 0, 0, 0, 0, 0, 0, 0, 0);
        dueRow("note(k, 0)", notes(x, 0), 3, -6, 0, 0, 0, 9, 0, 0, 0, 0, 0, 0);
        due("count(1)", x.count(1), 2);
        long before = x.digest();
        due("shift(2) again", x.shift(2), 2);
        due("digest()", x.digest(), before);
        x.setFifth(3, 1);
        due("fifth(2, 0)", x.fifth(2, 0), 19);
        due("shift(0)", x.shift(0), 2);
        due("shift(11)", x.shift(11), 0);
        dueRow("fifth(k, 0)", fifths(x, 0), 4, 0, 0, 1, 0, 0, 0, 0, 0, 0, 0, 19);
        for (int fifth : BELOW_AND_ABOVE_RING) {
            dueThrow(x, "shift(" + fifth + ")", INDEX, () -> x.shift(fifth));
        }
    }

    private static void promise4Spread() {
        promise = 4;
        FifthBeats x = offPiano();
        x.setFifth(9, 7);
        due("spread(5)", x.spread(5), 17);
        dueRow("fifth(k, 0)", fifths(x, 0), 5, 5, 5, 5, 4, 0, 0, 0, 0, 0, 0, 0);
        due("count(1)", x.count(1), 11);
        dueRow("note(k, 0)", notes(x, 0), 3, -6, 0, 0, 0, 9, 0, 0, 0, 0, 0, 0);
        due("spread(11)", x.spread(11), 0);
        dueRow("fifth(k, 0)", fifths(x, 0), 3, 3, 2, 2, 2, 2, 2, 2, 2, 2, 2, 0);
        x.shift(9);
        due("spread(2)", x.spread(2), 0);
        dueRow("fifth(k, 0)", fifths(x, 0), 0, 0, 0, 0, 0, 0, 0, 0, 0, 0, 12, 12);
        due("spread(3)", x.spread(3), 0);
        dueRow("fifth(k, 0)", fifths(x, 0), 8, 0, 0, 0, 0, 0, 0, 0, 0, 0, 8, 8);
        x.setFifth(10, 0);
        due("fifth(9, 0)", x.fifth(9, 0), 8);
        due("spread(10)", x.spread(10), 8);
        dueRow("fifth(k, 0)", fifths(x, 0), 3, 3, 2, 2, 2, 2, 2, 2, 0, 0, 3, 3);
        for (int many : new int[] {1, 12, 0, -1, Integer.MIN_VALUE, Integer.MAX_VALUE}) {
            dueThrow(x, "spread(" + many + ")", ARGUMENT, () -> x.spread(many));
        }
    }

    private static void promise5SetOften() {
        promise = 5;
        FifthBeats x = new FifthBeats();
        due("setOften(0, 9)", x.setOften(0, 9), 1);
        due("setOften(0, 0)", x.setOften(0, 0), 9);
        due("setOften(11, 3)", x.setOften(11, 3), 1);
        dueRow("key(k, 0)", keys(x, 0), 0, 1, 1, 1, 1, 1, 1, 1, 1, 1, 1, 3);
        due("count(2)", x.count(2), 232 - 22 + 2 * 50);
        for (int key : BELOW_AND_ABOVE_RING) {
            dueThrow(x, "setOften(" + key + ", 1)", INDEX, () -> x.setOften(key, 1));
        }
        for (int often : new int[] {-1, 10, Integer.MIN_VALUE, Integer.MAX_VALUE}) {
            dueThrow(x, "setOften(5, " + often + ")", ARGUMENT, () -> x.setOften(5, often));
        }
        dueThrow(x, "setOften(12, 10)", INDEX, () -> x.setOften(12, 10));
    }

    private static void promise6SetDrift() {
        promise = 6;
        FifthBeats x = new FifthBeats();
        due("setDrift(0, 3)", x.setDrift(0, 3), 0);
        due("setDrift(0, -3)", x.setDrift(0, -3), 3);
        due("setDrift(11, 2)", x.setDrift(11, 2), 0);
        dueRow("note(k, 1)", notes(x, 1), -3, 0, 0, 0, 0, 0, 0, 0, 0, 0, 0, 2);
        dueRow("note(k, 0)", notes(x, 0), 0, 0, 0, 0, 0, 0, 0, 0, 0, 0, 0, 0);
        for (int note : BELOW_AND_ABOVE_RING) {
            dueThrow(x, "setDrift(" + note + ", 1)", INDEX, () -> x.setDrift(note, 1));
        }
        for (int drift : new int[] {-4, 4, Integer.MIN_VALUE, Integer.MAX_VALUE}) {
            dueThrow(x, "setDrift(5, " + drift + ")", ARGUMENT, () -> x.setDrift(5, drift));
        }
        dueThrow(x, "setDrift(-1, 4)", INDEX, () -> x.setDrift(-1, 4));
    }

    private static void promise7Tune() {
        promise = 7;
        FifthBeats x = offPiano();
        due("tune(1)", x.tune(1), 9);
        due("tune(6)", x.tune(6), 9);
        due("tune(5)", x.tune(5), -9);
        due("tune(5) again", x.tune(5), 0);
        dueRow("note(k, 0)", notes(x, 0), 3, 3, 0, 0, 0, 0, 9, 0, 0, 0, 0, 0);
        dueThrow(x, "tune(0)", STATE, () -> x.tune(0));
        for (int note : BELOW_AND_ABOVE_RING) {
            dueThrow(x, "tune(" + note + ")", INDEX, () -> x.tune(note));
        }
        x.shift(6);
        dueThrow(x, "tune(7) with the wolf 6", STATE, () -> x.tune(7));
        due("tune(0) with the wolf 6", x.tune(0), -3);
        x.setDrift(4, 2);
        x.pass(1);
        due("tune(4)", x.tune(4), -2);
        due("note(4, 1)", x.note(4, 1), 2);
    }

    private static void promise8TuneAll() {
        promise = 8;
        FifthBeats x = new FifthBeats();
        due("tuneAll() of a new one", x.tuneAll(), 0);
        FifthBeats y = offPiano();
        due("tuneAll()", y.tuneAll(), 11);
        dueRow("note(k, 0)", notes(y, 0), 3, 3, 3, 3, 3, 3, 3, 3, 3, 3, 3, 3);
        due("tuneAll() again", y.tuneAll(), 0);
        FifthBeats z = offPiano();
        z.shift(4);
        due("tuneAll() with the wolf 4", z.tuneAll(), 11);
        dueRow("note(k, 0)", notes(z, 0), 9, 9, 9, 9, 9, 9, 9, 9, 9, 9, 9, 9);
        FifthBeats w = offPiano();
        w.shift(7);
        due("tuneAll() with the wolf 7", w.tuneAll(), 3);
        dueRow("note(k, 0)", notes(w, 0), 0, 0, 0, 0, 0, 0, 0, 0, 0, 0, 0, 0);
        due("count(0)", w.count(0), 3);
    }

    private static void promise9Sweeten() {
        promise = 9;
        FifthBeats x = new FifthBeats();
        x.setDrift(4, -1);
        due("sweeten(0)", x.sweeten(0), -22);
        due("major(0, 1)", x.major(0, 1), 0);
        due("sweeten(8)", x.sweeten(8), 2);
        due("major(8, 1)", x.major(8, 1), 0);
        due("sweeten(0) again", x.sweeten(0), -20);
        dueRow("note(k, 0)", notes(x, 0), 2, 0, 0, 0, -20, 0, 0, 0, 0, 0, 0, 0);
        due("note(4, 1)", x.note(4, 1), -1);
        dueRow("fifth(k, 0)", fifths(x, 0), 0, 0, 0, 0, 0, 0, 0, 0, 0, 0, 0, 24);
        x.shift(3);
        due("sweeten(0) with the wolf below", x.sweeten(0), 4);
        for (int third : BELOW_AND_ABOVE_RING) {
            dueThrow(x, "sweeten(" + third + ")", INDEX, () -> x.sweeten(third));
        }
    }

    private static void promise9SweetenEdges() {
        promise = 9;
        FifthBeats x = new FifthBeats();
        x.setFifth(0, 20);
        x.setFifth(1, 20);
        x.setFifth(2, 20);
        x.setFifth(3, 13);
        dueThrow(x, "sweeten(0) to 51", STATE, () -> x.sweeten(0));
        x.setFifth(3, 12);
        due("sweeten(0) to 50", x.sweeten(0), 50);
        FifthBeats y = new FifthBeats();
        y.setFifth(4, -10);
        y.setFifth(5, -10);
        y.setFifth(6, -9);
        dueThrow(y, "sweeten(4) to -51", STATE, () -> y.sweeten(4));
        y.setFifth(6, -8);
        due("sweeten(4) to -50", y.sweeten(4), -50);
    }

    private static void promise10Pass() {
        promise = 10;
        FifthBeats x = new FifthBeats();
        due("pass(1) without drifts", x.pass(1), 0);
        x.setDrift(2, 3);
        x.setDrift(7, -1);
        due("pass(16)", x.pass(16), 48);
        due("pass(1) to 50", x.pass(1), 50);
        x.setDrift(2, -3);
        due("pass(1) back", x.pass(1), 47);
        dueRow("note(k, 0)", notes(x, 0), 0, 0, 47, 0, 0, 0, 0, -18, 0, 0, 0, 0);
        due("pass(100)", x.pass(100), 50);
        dueRow("note(k, 0)", notes(x, 0), 0, 0, -50, 0, 0, 0, 0, -50, 0, 0, 0, 0);
        due("count(0)", x.count(0), 119);
        FifthBeats y = new FifthBeats();
        y.setDrift(0, -2);
        y.setDrift(1, 1);
        due("pass(7) with the greatest below 0", y.pass(7), 14);
        for (int days : new int[] {0, 101, -1, Integer.MIN_VALUE, Integer.MAX_VALUE}) {
            dueThrow(y, "pass(" + days + ")", ARGUMENT, () -> y.pass(days));
        }
    }

    private static void promise11Fifth() {
        promise = 11;
        FifthBeats x = offPiano();
        x.setFifth(0, -10);
        dueRow("fifth(k, 0)", fifths(x, 0), -10, 0, 0, 0, 0, 0, 0, 0, 0, 0, 0, 34);
        dueRow("fifth(k, 1)", fifths(x, 1), -1, -6, 0, 0, -9, 9, 0, 0, 0, 0, 0, 31);
        dueRow("fifth(k, 2)", fifths(x, 2), 703, 708, 702, 702, 711, 693, 702, 702, 702, 702, 702, 671);
        dueRow("fifth(k, 3)", fifths(x, 3), 45, 407, 0, 0, 514, 770, 0, 0, 0, 0, 0, 1875);
        dueRow("fifth(k, 4)", fifths(x, 4), 0, 0, 0, 0, 0, 0, 0, 0, 0, 0, 0, 1);
        for (int bad : BELOW_AND_ABOVE_RING) {
            dueThrow(x, "fifth(" + bad + ", 0)", INDEX, () -> x.fifth(bad, 0));
        }
        for (int bad : new int[] {-1, 5, Integer.MIN_VALUE, Integer.MAX_VALUE}) {
            dueThrow(x, "fifth(0, " + bad + ")", INDEX, () -> x.fifth(0, bad));
        }
    }

    private static void promise12Major() {
        promise = 12;
        FifthBeats x = new FifthBeats();
        dueRow("major(k, 0)", majors(x, 0), 408, 408, 408, 408, 408, 408, 408, 408, 384, 384, 384, 384);
        dueRow("major(k, 1)", majors(x, 1), 22, 22, 22, 22, 22, 22, 22, 22, -2, -2, -2, -2);
        dueRow("major(k, 2)", majors(x, 2),
            1665, 2492, 1869, 2797, 2098, 3141, 2352, 1761, 239, 179, 269, 201);
        FifthBeats y = offPiano();
        y.setFifth(3, 6);
        dueRow("major(k, 1)", majors(y, 1), 13, 31, 16, 16, 22, 13, 22, 22, 7, -2, 4, 4);
        dueRow("major(k, 0)", majors(y, 0), 399, 417, 402, 402, 408, 399, 408, 408, 393, 384, 390, 390);
        for (int bad : BELOW_AND_ABOVE_RING) {
            dueThrow(x, "major(" + bad + ", 0)", INDEX, () -> x.major(bad, 0));
        }
        for (int bad : new int[] {-1, 3, Integer.MIN_VALUE, Integer.MAX_VALUE}) {
            dueThrow(x, "major(0, " + bad + ")", INDEX, () -> x.major(0, bad));
        }
    }

    private static void promise13Minor() {
        promise = 13;
        FifthBeats x = new FifthBeats();
        dueRow("minor(k, 0)", minors(x, 0), 318, 318, 318, 294, 294, 294, 294, 294, 294, 294, 294, 294);
        dueRow("minor(k, 1)", minors(x, 1), 2, 2, 2, -22, -22, -22, -22, -22, -22, -22, -22, -22);
        FifthBeats y = offPiano();
        y.setFifth(3, 6);
        dueRow("minor(k, 1)", minors(y, 1), -7, 2, -4, -19, -22, -25, -16, -22, -13, -22, -22, -22);
        for (int bad : BELOW_AND_ABOVE_RING) {
            dueThrow(x, "minor(" + bad + ", 0)", INDEX, () -> x.minor(bad, 0));
        }
        for (int bad : new int[] {-1, 2, Integer.MIN_VALUE, Integer.MAX_VALUE}) {
            dueThrow(x, "minor(0, " + bad + ")", INDEX, () -> x.minor(0, bad));
        }
    }

    private static void promise14Note() {
        promise = 14;
        FifthBeats x = new FifthBeats();
        dueRow("note(k, 2)", notes(x, 2), 0, 7, 2, 9, 4, 11, 6, 1, 8, 3, 10, 5);
        dueRow("note(k, 3)", notes(x, 3), 262, 392, 294, 440, 330, 494, 370, 277, 415, 311, 466, 349);
        dueRow("note(k, 4)", notes(x, 4), 0, 702, 204, 906, 408, 1110, 612, 114, 816, 318, 1020, 522);
        FifthBeats y = offPiano();
        y.setFifth(2, 5);
        y.setDrift(9, -3);
        dueRow("note(k, 0)", notes(y, 0), 3, -6, 0, 0, 0, 9, 0, 0, 0, 0, 0, 0);
        dueRow("note(k, 1)", notes(y, 1), 0, 0, 0, 0, 0, 0, 0, 0, 0, -3, 0, 0);
        dueRow("note(k, 4)", notes(y, 4), 0, 693, 201, 898, 400, 1111, 604, 106, 808, 310, 1012, 514);
        for (int bad : BELOW_AND_ABOVE_RING) {
            dueThrow(x, "note(" + bad + ", 0)", INDEX, () -> x.note(bad, 0));
        }
        for (int bad : new int[] {-1, 5, Integer.MIN_VALUE, Integer.MAX_VALUE}) {
            dueThrow(x, "note(0, " + bad + ")", INDEX, () -> x.note(0, bad));
        }
    }

    private static void promise15Key() {
        promise = 15;
        FifthBeats x = new FifthBeats();
        x.setOften(0, 9);
        x.setOften(3, 0);
        x.setOften(11, 2);
        dueRow("key(k, 0)", keys(x, 0), 9, 1, 1, 0, 1, 1, 1, 1, 1, 1, 1, 2);
        dueRow("key(k, 1)", keys(x, 1), 22, 22, 22, 22, 22, 22, 22, 22, 2, 2, 2, 50);
        dueRow("key(k, 2)", keys(x, 2), 198, 22, 22, 0, 22, 22, 22, 22, 2, 2, 2, 100);
        dueRow("key(k, 3)", keys(x, 3), 4, 5, 6, 7, 8, 9, 10, 11, 1, 2, 3, 12);
        x.setFifth(5, -10);
        due("key(5, 1)", x.key(5, 1), 52);
        for (int bad : BELOW_AND_ABOVE_RING) {
            dueThrow(x, "key(" + bad + ", 0)", INDEX, () -> x.key(bad, 0));
        }
        for (int bad : new int[] {-1, 4, Integer.MIN_VALUE, Integer.MAX_VALUE}) {
            dueThrow(x, "key(0, " + bad + ")", INDEX, () -> x.key(0, bad));
        }
    }

    private static void promise16Count() {
        promise = 16;
        FifthBeats x = offPiano();
        x.setFifth(3, 6);
        dueRow("count", counts(x), 3, 11, 280, 31, 6, 18, 770);
        x.shift(0);
        dueRow("count(1)", new int[] {x.count(1)}, 0);
        FifthBeats y = new FifthBeats();
        y.spread(4);
        due("count(4), the wolf as well", y.count(4), 8);
        y.setFifth(2, -10);
        due("count(3)", y.count(3), 26);
        for (int k = 0; k < 11; k++) {
            y.setFifth(k, k >= 4 && k < 8 ? 20 : -7);
        }
        due("count(3) below 0", y.count(3), 58);
        due("count(6)", y.count(6), 1712);
        for (int bad : new int[] {-1, 7, Integer.MIN_VALUE, Integer.MAX_VALUE}) {
            dueThrow(x, "count(" + bad + ")", INDEX, () -> x.count(bad));
        }
    }

    private static void promise17Foresee() {
        promise = 17;
        FifthBeats x = new FifthBeats();
        x.setDrift(3, 1);
        x.setDrift(8, -2);
        long before = x.digest();
        due("foresee(1, 5)", x.foresee(1, 5), 3);
        due("foresee(10, 5)", x.foresee(10, 5), 30);
        due("foresee(100, 5)", x.foresee(100, 5), 100);
        due("foresee(1, 4)", x.foresee(1, 4), 7);
        for (int days : new int[] {1, 24, 26, 50, 100}) {
            FifthBeats twin = new FifthBeats();
            twin.setDrift(3, 1);
            twin.setDrift(8, -2);
            twin.pass(days);
            for (int what = 2; what <= 6; what++) {
                due("foresee(" + days + ", " + what + ")", x.foresee(days, what), twin.count(what));
            }
        }
        due("digest()", x.digest(), before);
        for (int days : new int[] {0, 101, -1, Integer.MIN_VALUE, Integer.MAX_VALUE}) {
            dueThrow(x, "foresee(" + days + ", 2)", ARGUMENT, () -> x.foresee(days, 2));
        }
        for (int what : new int[] {0, 1, 7, -1, Integer.MIN_VALUE, Integer.MAX_VALUE}) {
            dueThrow(x, "foresee(1, " + what + ")", INDEX, () -> x.foresee(1, what));
        }
        dueThrow(x, "foresee(101, 7)", ARGUMENT, () -> x.foresee(101, 7));
    }

    private static void promise18Until() {
        promise = 18;
        FifthBeats x = new FifthBeats();
        due("until(1), the wolf alone beats", x.until(1), -1);
        x.setDrift(1, 1);
        long before = x.digest();
        due("until(1)", x.until(1), 1);
        due("until(67)", x.until(67), 1);
        due("until(68)", x.until(68), 2);
        due("until(3396)", x.until(3396), 50);
        due("until(3397)", x.until(3397), -1);
        due("until(9999)", x.until(9999), -1);
        due("digest()", x.digest(), before);
        x.setFifth(0, 5);
        due("until(227)", x.until(227), 0);
        due("until(228)", x.until(228), 4);
        FifthBeats y = new FifthBeats();
        y.setDrift(1, -3);
        y.pass(17);
        y.setDrift(1, 1);
        due("until(3396) from -50", y.until(3396), 0);
        y.setFifth(1, 10);
        due("until(4076)", y.until(4076), 100);
        due("until(4077)", y.until(4077), -1);
        for (int beats : new int[] {0, 10000, -1, Integer.MIN_VALUE, Integer.MAX_VALUE}) {
            dueThrow(x, "until(" + beats + ")", ARGUMENT, () -> x.until(beats));
        }
    }

    private static void promise19Advise() {
        promise = 19;
        FifthBeats x = new FifthBeats();
        due("advise(), all as dear", x.advise(), 0);
        playOnly(x, 0, 9);
        long before = x.digest();
        due("advise() for the key 0", x.advise(), 1);
        due("digest()", x.digest(), before);
        playOnly(x, 5, 1);
        due("advise() for the key 5", x.advise(), 6);
        playOnly(x, 10, 1);
        due("advise() for the key 10", x.advise(), 0);
        playOnly(x, 8, 1);
        due("advise() for the key 8", x.advise(), 9);
        x.setOften(9, 1);
        x.setOften(10, 1);
        due("advise() where it is", x.advise(), 11);
        x.setFifth(1, 20);
        x.setFifth(2, 2);
        playOnly(x, 0, 1);
        due("advise(), what the wolf gives back counts", x.advise(), 2);
    }

    private static void promise20Temper() {
        promise = 20;
        FifthBeats x = new FifthBeats();
        playOnly(x, 0, 1);
        long before = x.digest();
        due("temper(0)", x.temper(0), 0);
        due("temper(1)", x.temper(1), 20);
        due("temper(8), all as dear", x.temper(8), -10);
        due("digest()", x.digest(), before);
        x.setFifth(2, 10);
        due("temper(1) behind setFifth(2, 10)", x.temper(1), 12);
        due("temper(2)", x.temper(2), 20);
        playOnly(x, 11, 1);
        due("temper(4) with the wolf 11 dear", x.temper(4), 14);
        dueThrow(x, "temper(11)", STATE, () -> x.temper(11));
        x.shift(4);
        dueThrow(x, "temper(4)", STATE, () -> x.temper(4));
        for (int bad : BELOW_AND_ABOVE_RING) {
            dueThrow(x, "temper(" + bad + ")", INDEX, () -> x.temper(bad));
        }
    }

    private static void promise21Next() {
        promise = 21;
        FifthBeats x = new FifthBeats();
        due("next() of a new one", x.next(), -1);
        playOnly(x, 0, 1);
        putOff(x, 4, 15);
        long before = x.digest();
        due("next() with the note 4 off", x.next(), 4);
        due("digest()", x.digest(), before);
        x.setOften(6, 1);
        putOff(x, 10, 15);
        due("next(), two as good", x.next(), 4);
        putOff(x, 10, 3);
        due("next(), the later one better", x.next(), 10);
        FifthBeats y = new FifthBeats();
        playOnly(y, 0, 1);
        putOff(y, 0, -15);
        due("next() with a note that cannot be tuned", y.next(), 1);
        y.shift(6);
        due("next() behind shift(6)", y.next(), 0);
        playOnly(y, 0, 0);
        due("next() if nobody plays", y.next(), -1);
    }

    private static void promise22Mean() {
        promise = 22;
        FifthBeats x = new FifthBeats();
        if (x.mean() != 232 / 12.0) {
            report("mean() answered " + x.mean());
        }
        x.setOften(3, 9);
        if (x.mean() != 232 / 12.0) {
            report("mean() with other often answered " + x.mean());
        }
        x.spread(11);
        if (x.mean() != 18.0) {
            report("mean() behind spread(11) answered " + x.mean());
        }
    }

    private static void promise23Digest() {
        promise = 23;
        FifthBeats x = offPiano();
        x.setFifth(2, 5);
        x.setOften(7, 4);
        x.setDrift(10, -2);
        x.shift(6);
        long d = 1697;
        for (int what = 0; what <= 6; what++) {
            d = d * 31 + x.count(what);
        }
        for (int k = 0; k < 12; k++) {
            for (int what = 0; what <= 4; what++) {
                d = d * 31 + x.fifth(k, what);
            }
            for (int what = 0; what <= 2; what++) {
                d = d * 31 + x.major(k, what);
            }
            d = (d * 31 + x.minor(k, 0)) * 31 + x.minor(k, 1);
            for (int what = 0; what <= 4; what++) {
                d = d * 31 + x.note(k, what);
            }
            for (int what = 0; what <= 3; what++) {
                d = d * 31 + x.key(k, what);
            }
        }
        due("digest()", x.digest(), d);
        due("digest() again", x.digest(), d);
    }

    public static void main(String[] args) {
        promise1NewObject();
        promise2SetFifth();
        promise3Shift();
        promise4Spread();
        promise5SetOften();
        promise6SetDrift();
        promise7Tune();
        promise8TuneAll();
        promise9Sweeten();
        promise9SweetenEdges();
        promise10Pass();
        promise11Fifth();
        promise12Major();
        promise13Minor();
        promise14Note();
        promise15Key();
        promise16Count();
        promise17Foresee();
        promise18Until();
        promise19Advise();
        promise20Temper();
        promise21Next();
        promise22Mean();
        promise23Digest();
        System.out.println(wrong == 0 ? "all promises hold" : wrong + " answers are not as due");
        if (wrong != 0) {
            System.exit(1);
        }
    }
}
