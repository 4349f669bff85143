/** The boundary cases that the document's Terms name: a test for each such sentence. */
public final class TermsBoundaryTest {

    private static void use() {
        Boundary.sentence("Use: at most 512 calls");
        FifthBeats x = new FifthBeats();
        x.setDrift(5, 1);
        x.setDrift(6, -1);
        for (int call = 3; call < 511; call++) {
            x.pass(100);
        }
        Boundary.due("count(0), the call 511", x.count(0), 50800);
        Boundary.due("pass(100), the call 512", x.pass(100), 50);
    }

    private static void ringOfFifths() {
        Boundary.sentence("Ring: the fifth k goes from the note k to k + 1, the note 0 again behind the note 11");
        FifthBeats x = new FifthBeats();
        Boundary.putOff(x, 0, 6);
        Boundary.dueRow("fifth(k, 1), the note 0 off", Boundary.narrownesses(x), 6, 0, 0, 0, 0, 0, 0, 0, 0, 0, 0, 18);
        FifthBeats y = new FifthBeats();
        Boundary.putOff(y, 11, 6);
        Boundary.dueRow("fifth(k, 1), the note 11 off", Boundary.narrownesses(y),
            0, 0, 0, 0, 0, 0, 0, 0, 0, 0, -6, 30);
    }

    private static void ringOfMajorThirds() {
        Boundary.sentence("Ring: the major third k goes from the note k to k + 4, around the ring");
        FifthBeats x = new FifthBeats();
        x.setFifth(0, 5);
        Boundary.dueRow("major(k, 1), the plan", Boundary.row(k -> x.major(k, 1)),
            17, 22, 22, 22, 22, 22, 22, 22, 3, -2, -2, -2);
        FifthBeats y = new FifthBeats();
        Boundary.putOff(y, 0, 5);
        Boundary.dueRow("major(k, 1), the note 0 off", Boundary.row(k -> y.major(k, 1)),
            17, 22, 22, 22, 22, 22, 22, 22, 3, -2, -2, -2);
        FifthBeats z = new FifthBeats();
        Boundary.putOff(z, 3, 5);
        Boundary.dueRow("major(k, 1), the note 3 off", Boundary.row(k -> z.major(k, 1)),
            22, 22, 22, 17, 22, 22, 22, 22, -2, -2, -2, 3);
    }

    private static void ringOfMinorThirds() {
        Boundary.sentence("Ring: the minor third k goes from the note k to k + 9, around the ring");
        FifthBeats x = new FifthBeats();
        x.setFifth(0, 5);
        Boundary.dueRow("minor(k, 0), the plan", Boundary.row(k -> x.minor(k, 0)),
            313, 318, 318, 299, 294, 294, 294, 294, 294, 294, 294, 294);
        FifthBeats y = new FifthBeats();
        Boundary.putOff(y, 0, 5);
        Boundary.dueRow("minor(k, 0), the note 0 off", Boundary.row(k -> y.minor(k, 0)),
            313, 318, 318, 299, 294, 294, 294, 294, 294, 294, 294, 294);
        FifthBeats z = new FifthBeats();
        Boundary.putOff(z, 11, 5);
        Boundary.dueRow("minor(k, 0), the note 11 off", Boundary.row(k -> z.minor(k, 0)),
            318, 318, 323, 294, 294, 294, 294, 294, 294, 294, 294, 289);
    }

    private static void keyboard() {
        Boundary.sentence("Ring: the number on the keyboard is the remainder by 12 of 7 times the number");
        FifthBeats x = new FifthBeats();
        Boundary.due("note(0, 2)", x.note(0, 2), 0);
        Boundary.due("note(1, 2), below 12", x.note(1, 2), 7);
        Boundary.due("note(2, 2), beyond 12", x.note(2, 2), 2);
        Boundary.due("note(5, 2), the greatest", x.note(5, 2), 11);
        Boundary.due("note(11, 2)", x.note(11, 2), 5);
        Boundary.due("note(0, 3), the first swings", x.note(0, 3), 262);
        Boundary.due("note(5, 3), the last swings", x.note(5, 3), 494);
        Boundary.due("note(11, 3)", x.note(11, 3), 349);
    }

    private static void wolfGetsWhatIsLeft() {
        Boundary.sentence("Plan: the wolf by what is left, 24 less those of all others, whatever that is");
        for (int wolf = 0; wolf < 12; wolf++) {
            FifthBeats wide = Boundary.planned(wolf, -10);
            Boundary.due("the wolf " + wolf + ", the others -10", wide.fifth(wolf, 0), 134);
            Boundary.due("its narrowness", wide.fifth(wolf, 1), 134);
            FifthBeats narrow = Boundary.planned(wolf, 20);
            Boundary.due("the wolf " + wolf + ", the others 20", narrow.fifth(wolf, 0), -196);
            Boundary.due("its narrowness", narrow.fifth(wolf, 1), -196);
        }
        FifthBeats x = new FifthBeats();
        x.setFifth(0, 4);
        Boundary.due("the wolf with 20", x.fifth(11, 0), 20);
        x.setFifth(0, 3);
        Boundary.due("the wolf with 21", x.fifth(11, 0), 21);
        x.setFifth(0, 20);
        x.setFifth(1, 4);
        Boundary.due("the wolf with nothing left", x.fifth(11, 0), 0);
        x.setFifth(1, 14);
        Boundary.due("the wolf with -10", x.fifth(11, 0), -10);
        x.setFifth(1, 15);
        Boundary.due("the wolf with -11", x.fifth(11, 0), -11);
    }

    private static void held(int drift, int daysBefore, int before, int edge) {
        FifthBeats x = new FifthBeats();
        x.setDrift(8, drift);
        x.pass(daysBefore);
        Boundary.due("the drift " + drift + ", " + daysBefore + " days", x.note(8, 0), before);
        x.pass(1);
        Boundary.due("the drift " + drift + ", a day more", x.note(8, 0), edge);
        x.pass(1);
        Boundary.due("the drift " + drift + ", two days more", x.note(8, 0), edge);
        x.setDrift(8, drift < 0 ? 1 : -1);
        x.pass(1);
        Boundary.due("a day back from the edge", x.note(8, 0), drift < 0 ? -49 : 49);
    }

    private static void aDay() {
        Boundary.sentence("A day: each note is off by its drift more, held at -50 and 50");
        held(1, 49, 49, 50);
        held(2, 24, 48, 50);
        held(3, 16, 48, 50);
        held(-1, 49, -49, -50);
        held(-2, 24, -48, -50);
        held(-3, 16, -48, -50);
        FifthBeats x = new FifthBeats();
        x.setDrift(2, 3);
        x.setDrift(3, -3);
        x.pass(18);
        Boundary.dueRow("each note by itself", Boundary.offs(x), 0, 0, 50, -50, 0, 0, 0, 0, 0, 0, 0, 0);
        Boundary.sentence("A day: the day is 1 greater");
        Boundary.due("count(0)", x.count(0), 18);
        x.pass(1);
        Boundary.due("count(0), at the edges of all notes too", x.count(0), 19);
    }

    private static void narrownessAtItsEdges() {
        Boundary.sentence("Narrowness: that by the plan, and what the one note is off, less what the other is off");
        FifthBeats x = Boundary.planned(11, 20);
        Boundary.putOff(x, 5, 50);
        Boundary.putOff(x, 6, -50);
        Boundary.due("fifth(5, 1), the greatest", x.fifth(5, 1), 120);
        Boundary.due("fifth(5, 2), the least", x.fifth(5, 2), 582);
        FifthBeats y = Boundary.planned(11, -10);
        Boundary.putOff(y, 5, -50);
        Boundary.putOff(y, 6, 50);
        Boundary.due("fifth(5, 1), the least", y.fifth(5, 1), -110);
        Boundary.due("fifth(5, 2), the greatest", y.fifth(5, 2), 812);
        FifthBeats z = Boundary.planned(11, -10);
        Boundary.putOff(z, 11, 50);
        Boundary.putOff(z, 0, -50);
        Boundary.due("fifth(11, 1), the wolf's greatest", z.fifth(11, 1), 234);
        Boundary.due("fifth(11, 2)", z.fifth(11, 2), 468);
        FifthBeats w = Boundary.planned(11, 20);
        Boundary.putOff(w, 11, -50);
        Boundary.putOff(w, 0, 50);
        Boundary.due("fifth(11, 1), the wolf's least", w.fifth(11, 1), -296);
        Boundary.due("fifth(11, 2)", w.fifth(11, 2), 998);
    }

    private static void beatsOfFifths() {
        Boundary.sentence("Beats of a fifth: narrowness without its sign, / cut towards 0");
        FifthBeats x = new FifthBeats();
        Boundary.due("fifth(0, 3), pure", x.fifth(0, 3), 0);
        x.setFifth(0, 1);
        Boundary.due("fifth(0, 3), by 1", x.fifth(0, 3), 45);
        x.setFifth(0, -1);
        Boundary.due("fifth(0, 3), by -1", x.fifth(0, 3), 45);
        x.setFifth(5, 1);
        Boundary.due("fifth(5, 3), by 1", x.fifth(5, 3), 85);
        x.setFifth(5, -1);
        Boundary.due("fifth(5, 3), by -1", x.fifth(5, 3), 85);
        FifthBeats y = Boundary.planned(5, 20);
        Boundary.putOff(y, 5, -50);
        Boundary.putOff(y, 6, 50);
        Boundary.due("fifth(5, 3), the fastest of all", y.fifth(5, 3), 25342);
        FifthBeats z = Boundary.planned(11, 20);
        Boundary.putOff(z, 5, 50);
        Boundary.putOff(z, 6, -50);
        Boundary.due("fifth(5, 3), the fastest that is not the wolf", z.fifth(5, 3), 10273);
    }

    private static void beatsOfMajorThirds() {
        Boundary.sentence("Beats of a major third: what it is off without its sign, / cut towards 0");
        FifthBeats x = new FifthBeats();
        x.setFifth(0, 20);
        x.setFifth(1, 2);
        Boundary.due("major(0, 2), pure", x.major(0, 2), 0);
        x.setFifth(1, 1);
        Boundary.due("major(0, 1)", x.major(0, 1), 1);
        Boundary.due("major(0, 2), off by 1", x.major(0, 2), 75);
        x.setFifth(1, 3);
        Boundary.due("major(0, 1)", x.major(0, 1), -1);
        Boundary.due("major(0, 2), off by -1", x.major(0, 2), 75);
        FifthBeats y = Boundary.planned(5, 20);
        Boundary.putOff(y, 5, -50);
        Boundary.putOff(y, 9, 50);
        Boundary.due("major(5, 1), the greatest", y.major(5, 1), 258);
        Boundary.due("major(5, 2)", y.major(5, 2), 36835);
        FifthBeats z = Boundary.planned(5, -10);
        Boundary.putOff(z, 5, 50);
        Boundary.putOff(z, 9, -50);
        Boundary.due("major(5, 1), the least", z.major(5, 1), -182);
        Boundary.due("major(5, 2)", z.major(5, 2), 25984);
    }

    private static void minorThirdsAtTheirEdges() {
        Boundary.sentence("Width of a minor third: 294 and the narrowness, as it is, of the fifths k + 9 to k + 11");
        FifthBeats x = Boundary.planned(2, -10);
        Boundary.putOff(x, 0, 50);
        Boundary.putOff(x, 3, -50);
        Boundary.due("minor(3, 0), the widest", x.minor(3, 0), 508);
        Boundary.due("minor(3, 1)", x.minor(3, 1), 192);
        FifthBeats y = Boundary.planned(2, 20);
        Boundary.putOff(y, 0, -50);
        Boundary.putOff(y, 3, 50);
        Boundary.due("minor(3, 0), the narrowest", y.minor(3, 0), 38);
        Boundary.due("minor(3, 1)", y.minor(3, 1), -278);
    }

    private static void keysPlayedNever() {
        Boundary.sentence("Keys: each is played so often, 0 to 9; the cost is the sourness times that");
        FifthBeats x = new FifthBeats();
        x.setOften(11, 0);
        Boundary.due("key(11, 2), played never", x.key(11, 2), 0);
        Boundary.due("key(11, 1), as sour as ever", x.key(11, 1), 50);
        x.setOften(11, 9);
        Boundary.due("key(11, 2), played most", x.key(11, 2), 450);
        Boundary.sentence("Keys: what the major third is off, and twice the narrowness, both without signs");
        FifthBeats y = new FifthBeats();
        y.setFifth(7, -10);
        Boundary.due("key(7, 1), off by 32 and -10", y.key(7, 1), 52);
        y.setFifth(7, 10);
        Boundary.due("key(7, 1), off by 12 and 10", y.key(7, 1), 32);
        y.setFifth(6, 20);
        Boundary.due("key(6, 1), off by -8 and 20", y.key(6, 1), 48);
        y.setFifth(4, 20);
        y.setFifth(5, -10);
        y.setFifth(6, 2);
        Boundary.due("key(4, 1), off by 0 and 20", y.key(4, 1), 40);
    }

    private static void tuningAroundTheRing() {
        Boundary.sentence("Tuning a note: it is off as much then as the note ahead of it in the ring is");
        FifthBeats x = Boundary.withWolf(5);
        Boundary.putOff(x, 11, 8);
        Boundary.due("tune(0), from the note 11", x.tune(0), 8);
        Boundary.due("tune(1), from the note 0", x.tune(1), 8);
        Boundary.due("tune(11), from the note 10", x.tune(11), -8);
        Boundary.dueRow("note(k, 0)", Boundary.offs(x), 8, 8, 0, 0, 0, 0, 0, 0, 0, 0, 0, 0);
        Boundary.sentence("Tuning a note: it cannot be done, if the fifth between both is the wolf");
        for (int wolf = 0; wolf < 12; wolf++) {
            int at = wolf;
            for (int k = 0; k < 12; k++) {
                int note = k;
                String text = "tune(" + note + ") with the wolf " + wolf;
                if (note == (wolf + 1) % 12) {
                    Boundary.refused(text, Boundary.STATE, () -> Boundary.withWolf(at), x1 -> x1.tune(note));
                } else {
                    Boundary.allowed(text, () -> Boundary.withWolf(at), x1 -> x1.tune(note));
                }
            }
        }
    }

    public static void main(String[] args) {
        use();
        ringOfFifths();
        ringOfMajorThirds();
        ringOfMinorThirds();
        keyboard();
        wolfGetsWhatIsLeft();
        aDay();
        narrownessAtItsEdges();
        beatsOfFifths();
        beatsOfMajorThirds();
        minorThirdsAtTheirEdges();
        keysPlayedNever();
        tuningAroundTheRing();
        Boundary.end();
    }
}
