/** The boundary cases that the promises 6 to 10 name: a test for each such sentence. */
public final class StringsBoundaryTest {

    private static void setDrift() {
        Boundary.sentence("6 setDrift: IndexOutOfBoundsException if note is not 0 to 11");
        Boundary.range("setDrift(.., 1)", 0, 11, Boundary.INDEX, Boundary::worn, k -> x -> x.setDrift(k, 1));
        Boundary.sentence("6 setDrift: IllegalArgumentException if drift is not -3 to 3");
        Boundary.range("setDrift(3, ..)", -3, 3, Boundary.ARGUMENT, Boundary::worn, d -> x -> x.setDrift(3, d));
        Boundary.sentence("6 setDrift: the exception that is named first is thrown");
        for (int drift : new int[] {-4, 4}) {
            Boundary.refused("setDrift(-1, " + drift + ")", Boundary.INDEX, Boundary::worn,
                x -> x.setDrift(-1, drift));
            Boundary.refused("setDrift(12, " + drift + ")", Boundary.INDEX, Boundary::worn,
                x -> x.setDrift(12, drift));
        }
        Boundary.sentence("6 setDrift: returns that before");
        FifthBeats x = new FifthBeats();
        Boundary.due("setDrift(0, -3)", x.setDrift(0, -3), 0);
        Boundary.due("setDrift(0, 3)", x.setDrift(0, 3), -3);
        Boundary.due("setDrift(0, 3), the same again", x.setDrift(0, 3), 3);
        Boundary.due("setDrift(11, -1)", x.setDrift(11, -1), 0);
        Boundary.dueRow("note(k, 1)", Boundary.row(k -> x.note(k, 1)), 3, 0, 0, 0, 0, 0, 0, 0, 0, 0, 0, -1);
        Boundary.dueRow("note(k, 0), no day went by", Boundary.offs(x), 0, 0, 0, 0, 0, 0, 0, 0, 0, 0, 0, 0);
    }

    private static void tuneIndex() {
        Boundary.sentence("7 tune: IndexOutOfBoundsException if note is not 0 to 11");
        Boundary.range("tune(..)", 0, 11, Boundary.INDEX, Boundary::worn, k -> x -> x.tune(k));
        Boundary.refused("tune(12), the wolf 11", Boundary.INDEX, FifthBeats::new, x -> x.tune(12));
        Boundary.refused("tune(-1), the wolf 10", Boundary.INDEX, () -> Boundary.withWolf(10), x -> x.tune(-1));
    }

    private static void tuneThatCannotBeDone() {
        Boundary.sentence("7 tune: IllegalStateException if it cannot be done");
        Boundary.refused("tune(0), the wolf 11", Boundary.STATE, FifthBeats::new, x -> x.tune(0));
        Boundary.refused("tune(5), the wolf 4", Boundary.STATE, Boundary::worn, x -> x.tune(5));
        Boundary.refused("tune(11), the wolf 10", Boundary.STATE, () -> Boundary.withWolf(10), x -> x.tune(11));
        Boundary.refused("tune(1), the wolf 0", Boundary.STATE, () -> Boundary.withWolf(0), x -> x.tune(1));
        Boundary.allowed("tune(4), the wolf 4", Boundary::worn, x -> x.tune(4));
        Boundary.allowed("tune(6), the wolf 4", Boundary::worn, x -> x.tune(6));
    }

    private static void tuneReturns() {
        Boundary.sentence("7 tune: returns what it is off then, less what it was off");
        FifthBeats x = new FifthBeats();
        Boundary.putOff(x, 3, 50);
        Boundary.putOff(x, 4, -50);
        x.setDrift(4, -2);
        Boundary.due("tune(4), the most", x.tune(4), 100);
        Boundary.due("note(4, 0)", x.note(4, 0), 50);
        Boundary.due("note(4, 1), the drift stays", x.note(4, 1), -2);
        Boundary.due("tune(4) again", x.tune(4), 0);
        FifthBeats y = new FifthBeats();
        Boundary.putOff(y, 3, -50);
        Boundary.putOff(y, 4, 50);
        Boundary.due("tune(4), the least", y.tune(4), -100);
        Boundary.dueRow("note(k, 0)", Boundary.offs(y), 0, 0, 0, -50, -50, 0, 0, 0, 0, 0, 0, 0);
        FifthBeats z = Boundary.withWolf(3);
        Boundary.putOff(z, 11, 7);
        Boundary.due("tune(0), from the note 11", z.tune(0), 7);
    }

    /** Notes off by their numbers (the note 0 by 0), so that each is another. */
    private static FifthBeats stairs(int wolf) {
        FifthBeats x = Boundary.withWolf(wolf);
        for (int note = 1; note < 12; note++) {
            Boundary.putOff(x, note, note);
        }
        return x;
    }

    private static void tuneAll() {
        Boundary.sentence("8 tuneAll: with the wolf w the notes w + 2, w + 3 and so on up to w, 11 of them");
        for (int wolf = 0; wolf < 12; wolf++) {
            FifthBeats x = stairs(wolf);
            int from = (wolf + 1) % 12;
            Boundary.due("tuneAll() with the wolf " + wolf, x.tuneAll(), 11);
            Boundary.dueRow("note(k, 0)", Boundary.offs(x),
                from, from, from, from, from, from, from, from, from, from, from, from);
            Boundary.due("tuneAll() again", x.tuneAll(), 0);
        }
        Boundary.sentence("8 tuneAll: returns how many of them are changed by it");
        FifthBeats x = new FifthBeats();
        Boundary.due("tuneAll() of a new one", x.tuneAll(), 0);
        Boundary.putOff(x, 11, 1);
        Boundary.due("tuneAll(), the last one off", x.tuneAll(), 1);
        Boundary.putOff(x, 1, -1);
        Boundary.due("tuneAll(), the first one off", x.tuneAll(), 1);
        Boundary.putOff(x, 5, 2);
        Boundary.putOff(x, 6, 2);
        Boundary.due("tuneAll(), two off by as much", x.tuneAll(), 2);
        Boundary.putOff(x, 0, 3);
        Boundary.due("tuneAll(), the one that is not tuned off", x.tuneAll(), 11);
        Boundary.due("note(0, 0)", x.note(0, 0), 3);
    }

    private static void sweetenIndex() {
        Boundary.sentence("9 sweeten: IndexOutOfBoundsException if third is not 0 to 11");
        Boundary.range("sweeten(..)", 0, 11, Boundary.INDEX, FifthBeats::new, k -> x -> x.sweeten(k));
    }

    private static FifthBeats topmost(int more) {
        FifthBeats x = new FifthBeats();
        x.setFifth(0, 20);
        x.setFifth(1, 20);
        x.setFifth(2, 20);
        x.setFifth(3, 12 + more);
        return x;
    }

    private static FifthBeats lowest(int more) {
        FifthBeats x = new FifthBeats();
        x.setFifth(4, -10);
        x.setFifth(5, -10);
        x.setFifth(6, -8 - more);
        return x;
    }

    /** The third 8 goes to the note 0, over the wolf, which has 24 less that of the fifth 0. */
    private static FifthBeats overTheWolf(int lowerNoteOff, int narrow) {
        FifthBeats x = new FifthBeats();
        Boundary.putOff(x, 8, lowerNoteOff);
        x.setFifth(0, narrow);
        return x;
    }

    private static void sweetenEdges() {
        Boundary.sentence("9 sweeten: IllegalStateException if the note would be off by less than -50 or more than 50");
        Boundary.due("sweeten(0) to 50", topmost(0).sweeten(0), 50);
        Boundary.refused("sweeten(0) to 51", Boundary.STATE, () -> topmost(1), x -> x.sweeten(0));
        Boundary.refused("sweeten(0) to 58", Boundary.STATE, () -> topmost(8), x -> x.sweeten(0));
        Boundary.due("sweeten(4) to -50", lowest(0).sweeten(4), -50);
        Boundary.refused("sweeten(4) to -51", Boundary.STATE, () -> lowest(1), x -> x.sweeten(4));
        Boundary.refused("sweeten(4) to -52", Boundary.STATE, () -> lowest(2), x -> x.sweeten(4));
        Boundary.due("sweeten(8) to 50", overTheWolf(50, 2).sweeten(8), 50);
        Boundary.refused("sweeten(8) to 51", Boundary.STATE, () -> overTheWolf(50, 1), x -> x.sweeten(8));
        Boundary.due("sweeten(8) to -50", overTheWolf(-50, 2).sweeten(8), -50);
        Boundary.refused("sweeten(8) to -51", Boundary.STATE, () -> overTheWolf(-50, 3), x -> x.sweeten(8));
        Boundary.refused("sweeten(0) to -72", Boundary.STATE, () -> {
            FifthBeats y = new FifthBeats();
            y.shift(8);
            Boundary.putOff(y, 0, -50);
            Boundary.putOff(y, 4, 50);
            return y;
        }, y -> y.sweeten(0));
    }

    private static void sweetenAtItsEnds() {
        Boundary.sentence("9 sweeten: tunes the upper note, so that the third is pure, as all other notes are");
        FifthBeats x = new FifthBeats();
        Boundary.due("sweeten(7)", x.sweeten(7), -22);
        Boundary.dueRow("note(k, 0)", Boundary.offs(x), 0, 0, 0, 0, 0, 0, 0, 0, 0, 0, 0, -22);
        Boundary.due("sweeten(8), around the ring", x.sweeten(8), 2);
        Boundary.due("sweeten(11), around the ring", x.sweeten(11), -20);
        Boundary.dueRow("note(k, 0)", Boundary.offs(x), 2, 0, 0, -20, 0, 0, 0, 0, 0, 0, 0, -22);
        Boundary.due("major(7, 1)", x.major(7, 1), 0);
        Boundary.due("major(8, 1)", x.major(8, 1), 0);
        Boundary.due("major(11, 1)", x.major(11, 1), 0);
        Boundary.putOff(x, 3, 50);
        Boundary.due("sweeten(11), its upper note at the edge", x.sweeten(11), -20);
        Boundary.putOff(x, 7, 4);
        Boundary.due("sweeten(11), the note below its lower one off", x.sweeten(11), -20);
        Boundary.changesNothing("sweeten(0), pure", () -> {
            FifthBeats y = new FifthBeats();
            y.setFifth(0, 20);
            y.setFifth(3, 2);
            y.setDrift(4, 1);
            return y;
        }, y -> y.sweeten(0));
        Boundary.sentence("9 sweeten: also with the wolf below it; its drift and the plan stay");
        FifthBeats z = new FifthBeats();
        z.setFifth(0, 3);
        z.shift(4);
        z.setDrift(5, 2);
        for (int third = 1; third < 5; third++) {
            Boundary.due("sweeten(" + third + ") with the wolf 4", z.sweeten(third), -1);
            Boundary.due("major(" + third + ", 1) with the wolf 4", z.major(third, 1), 0);
        }
        Boundary.due("note(5, 1)", z.note(5, 1), 2);
        Boundary.dueRow("fifth(k, 0)", Boundary.plans(z), 3, 0, 0, 0, 21, 0, 0, 0, 0, 0, 0, 0);
        Boundary.due("count(1)", z.count(1), 4);
    }

    private static void passArgument() {
        Boundary.sentence("10 pass: IllegalArgumentException if days is not 1 to 100");
        Boundary.range("pass(..)", 1, 100, Boundary.ARGUMENT, Boundary::worn, d -> x -> x.pass(d));
        FifthBeats x = new FifthBeats();
        x.setDrift(3, 1);
        Boundary.due("pass(1)", x.pass(1), 1);
        Boundary.due("count(0)", x.count(0), 1);
        Boundary.putOff(x, 3, -50);
        x.setDrift(3, 1);
        Boundary.due("pass(100), from edge to edge", x.pass(100), 50);
        Boundary.due("note(3, 0)", x.note(3, 0), 50);
        Boundary.due("count(0)", x.count(0), 152);
    }

    private static void passReturns() {
        Boundary.sentence("10 pass: returns the greatest number without its sign by which a note is off then");
        FifthBeats x = new FifthBeats();
        Boundary.due("pass(1) with nothing off", x.pass(1), 0);
        FifthBeats first = new FifthBeats();
        first.setDrift(0, -3);
        Boundary.due("pass(1), the first note alone", first.pass(1), 3);
        x.setDrift(11, -1);
        Boundary.due("pass(1), the last note lower", x.pass(1), 1);
        x.setDrift(0, 2);
        Boundary.due("pass(1), the first note higher", x.pass(1), 2);
        x.setDrift(0, -2);
        Boundary.due("pass(1), it was more before", x.pass(1), 3);
        Boundary.due("pass(100)", x.pass(100), 50);
        Boundary.dueRow("note(k, 0)", Boundary.offs(x), -50, 0, 0, 0, 0, 0, 0, 0, 0, 0, 0, -50);
        x.setDrift(0, 3);
        x.setDrift(11, 3);
        Boundary.due("pass(1), all nearer", x.pass(1), 47);
    }

    public static void main(String[] args) {
        setDrift();
        tuneIndex();
        tuneThatCannotBeDone();
        tuneReturns();
        tuneAll();
        sweetenIndex();
        sweetenEdges();
        sweetenAtItsEnds();
        passArgument();
        passReturns();
        Boundary.end();
    }
}
