import java.util.Arrays;
import java.util.function.IntFunction;

/** What the tests of the boundary cases share: reports by sentence, pianos, refused calls. */
final class Boundary {

    interface Maker {
        FifthBeats make();
    }

    interface Call {
        long on(FifthBeats x);
    }

    interface Tell {
        int of(int number);
    }

    static final Class<?> INDEX = IndexOutOfBoundsException.class;
    static final Class<?> ARGUMENT = IllegalArgumentException.class;
    static final Class<?> STATE = IllegalStateException.class;

    private static String sentence = "";
    private static int sentences = 0;
    private static int wrong = 0;

    private Boundary() {
    }

    /** The sentence of the document that the following checks are for. */
    static void sentence(String text) {
        sentence = text;
        sentences++;
    }

    static void report(String text) {
        wrong++;
        System.out.println(sentence + ": " + text);
    }

    static void due(String call, long got, long want) {
        if (got != want) {
            report(call + " answered " + got + ", due is " + want);
        }
    }

    static void dueRow(String call, int[] got, int... want) {
        if (!Arrays.equals(got, want)) {
            report(call + " answered " + Arrays.toString(got) + ", due is " + Arrays.toString(want));
        }
    }

    static void dueMean(String call, double got, double want) {
        if (got != want) {
            report(call + " answered " + got + ", due is " + want);
        }
    }

    static void end() {
        System.out.println(sentences + " sentences, " + wrong + " answers not as due");
        if (wrong != 0) {
            System.exit(1);
        }
    }

    /** What is told of the numbers 0 to 11. */
    static int[] row(Tell tell) {
        int[] row = new int[12];
        for (int k = 0; k < 12; k++) {
            row[k] = tell.of(k);
        }
        return row;
    }

    static int[] plans(FifthBeats x) {
        return row(k -> x.fifth(k, 0));
    }

    static int[] narrownesses(FifthBeats x) {
        return row(k -> x.fifth(k, 1));
    }

    static int[] offs(FifthBeats x) {
        return row(k -> x.note(k, 0));
    }

    /** Everything that a piano holds. */
    private static int[] held(FifthBeats x) {
        int[] all = new int[50];
        System.arraycopy(plans(x), 0, all, 0, 12);
        System.arraycopy(offs(x), 0, all, 12, 12);
        System.arraycopy(row(k -> x.note(k, 1)), 0, all, 24, 12);
        System.arraycopy(row(k -> x.key(k, 0)), 0, all, 36, 12);
        all[48] = x.count(0);
        all[49] = x.count(1);
        return all;
    }

    /** Lets a note be off by so many cents, in so many days; its drift is 0 then. */
    static void putOff(FifthBeats x, int note, int cents) {
        int way = cents - x.note(note, 0);
        x.setDrift(note, way < 0 ? -1 : 1);
        if (way != 0) {
            x.pass(Math.abs(way));
        }
        x.setDrift(note, 0);
    }

    /** A piano whose fifths have these by the plan, but the wolf, which is the fifth of that number. */
    static FifthBeats planned(int wolf, int narrow) {
        FifthBeats x = new FifthBeats();
        x.shift(wolf);
        for (int k = 0; k < 12; k++) {
            if (k != wolf) {
                x.setFifth(k, narrow);
            }
        }
        return x;
    }

    static FifthBeats withWolf(int wolf) {
        FifthBeats x = new FifthBeats();
        x.shift(wolf);
        return x;
    }

    static void playOnly(FifthBeats x, int key, int often) {
        for (int k = 0; k < 12; k++) {
            x.setOften(k, k == key ? often : 0);
        }
    }

    /** The wolf 4, notes off at both edges and between, drifts, keys played 0 to 9 times, the day 17. */
    static FifthBeats worn() {
        FifthBeats x = new FifthBeats();
        x.setFifth(0, 20);
        x.setFifth(2, -10);
        x.setFifth(5, 3);
        x.setFifth(9, -4);
        x.shift(4);
        x.setDrift(1, 3);
        x.setDrift(3, -2);
        x.setDrift(6, -3);
        x.setDrift(7, 1);
        x.setDrift(11, 2);
        x.pass(17);
        x.setDrift(6, 0);
        x.setDrift(7, -1);
        x.setDrift(10, 2);
        x.setOften(0, 9);
        x.setOften(4, 0);
        x.setOften(8, 4);
        return x;
    }

    /** The call may answer whatever it likes, but must not throw. */
    static void allowed(String text, Maker maker, Call call) {
        FifthBeats x = maker.make();
        try {
            call.on(x);
        } catch (RuntimeException e) {
            report(text + " threw " + e);
        }
    }

    /** The very exception is due, and that the call changes nothing, now or later. */
    static void refused(String text, Class<?> exception, Maker maker, Call call) {
        FifthBeats x = maker.make();
        try {
            report(text + " answered " + call.on(x) + ", due is " + exception.getSimpleName());
        } catch (RuntimeException e) {
            if (e.getClass() != exception) {
                report(text + " threw " + e + ", due is " + exception.getSimpleName());
            }
        }
        same(text, x, maker.make());
    }

    static void changesNothing(String text, Maker maker, Call call) {
        FifthBeats x = maker.make();
        FifthBeats twin = maker.make();
        long first = call.on(x);
        due(text + " again", call.on(x), first);
        same(text, x, twin);
    }

    private static void same(String text, FifthBeats x, FifthBeats twin) {
        dueRow("what is held behind " + text, held(x), held(twin));
        due("digest() behind " + text, x.digest(), twin.digest());
        due("foresee(7, 2) behind " + text, x.foresee(7, 2), twin.foresee(7, 2));
        due("next() behind " + text, x.next(), twin.next());
        due("pass(2) behind " + text, x.pass(2), twin.pass(2));
        due("digest() 2 days behind " + text, x.digest(), twin.digest());
        due("shift(7) behind " + text, x.shift(7), twin.shift(7));
        due("setFifth(3, 1) behind " + text, x.setFifth(3, 1), twin.setFifth(3, 1));
        due("tuneAll() behind " + text, x.tuneAll(), twin.tuneAll());
        due("digest() at the end behind " + text, x.digest(), twin.digest());
    }

    /** The last values that are allowed pass; the first that are not, and others beyond, are refused. */
    static void range(String call, int least, int most, Class<?> exception, Maker maker, IntFunction<Call> with) {
        for (int argument : new int[] {least, least + 1, most - 1, most}) {
            if (argument >= least && argument <= most) {
                allowed(call + " with " + argument, maker, with.apply(argument));
            }
        }
        for (int argument : new int[] {least - 1, most + 1, least - 12, most + 12, Integer.MIN_VALUE,
            Integer.MAX_VALUE}) {
            refused(call + " with " + argument, exception, maker, with.apply(argument));
        }
    }
}
