/** The boundary cases that the promises 11 to 16 name: a test for each such sentence. */
public final class TellBoundaryTest {

    /** A call of the face that tells of a number by another one. */
    private interface Teller {
        int tell(FifthBeats x, int number, int what);
    }

    private static void ranges(String promise, String number, int lastWhat, Teller teller) {
        Boundary.sentence(promise + ": IndexOutOfBoundsException if " + number + " is not 0 to 11");
        for (int what = 0; what <= lastWhat; what++) {
            int by = what;
            Boundary.range(promise + "(.., " + by + ")", 0, 11, Boundary.INDEX, Boundary::worn,
                k -> x -> teller.tell(x, k, by));
        }
        Boundary.sentence(promise + ": IndexOutOfBoundsException if what is not 0 to " + lastWhat);
        for (int k = 0; k < 12; k++) {
            int at = k;
            Boundary.range(promise + "(" + at + ", ..)", 0, lastWhat, Boundary.INDEX, Boundary::worn,
                what -> x -> teller.tell(x, at, what));
        }
        Boundary.refused(promise + " with both too small", Boundary.INDEX, Boundary::worn, x -> teller.tell(x, -1, -1));
        Boundary.refused(promise + " with both too great", Boundary.INDEX, Boundary::worn,
            x -> teller.tell(x, 12, lastWhat + 1));
        Boundary.sentence(promise + ": nothing is changed");
        for (int what = 0; what <= lastWhat; what++) {
            int by = what;
            Boundary.changesNothing(promise + "(11, " + by + ")", Boundary::worn, x -> teller.tell(x, 11, by));
        }
    }

    private static void fifth() {
        ranges("11 fifth", "fifth", 4, FifthBeats::fifth);
        Boundary.sentence("11 fifth: 0 by how much it is narrower by the plan, .. 4 1 if it is the wolf, else 0");
        FifthBeats x = Boundary.worn();
        Boundary.dueRow("fifth(k, 0)", Boundary.plans(x), 20, 0, -10, 0, 15, 3, 0, 0, 0, -4, 0, 0);
        Boundary.dueRow("fifth(k, 1)", Boundary.narrownesses(x), -30, 50, 24, -34, 15, 53, -67, 17, 0, -4, -34, 34);
        Boundary.dueRow("fifth(k, 2)", Boundary.row(k -> x.fifth(k, 2)),
            732, 652, 678, 736, 687, 649, 769, 685, 702, 706, 736, 668);
        Boundary.dueRow("fifth(k, 3)", Boundary.row(k -> x.fifth(k, 3)),
            1362, 3396, 1222, 2592, 857, 4537, 4296, 816, 0, 215, 2745, 2056);
        for (int wolf = 0; wolf < 12; wolf++) {
            x.shift(wolf);
            for (int k = 0; k < 12; k++) {
                Boundary.due("fifth(" + k + ", 4) with the wolf " + wolf, x.fifth(k, 4), k == wolf ? 1 : 0);
            }
        }
    }

    private static void thirds() {
        ranges("12 major", "third", 2, FifthBeats::major);
        Boundary.sentence("12 major: 0 its width, 1 what it is off, 2 its beats");
        FifthBeats x = Boundary.worn();
        for (int k = 0; k < 12; k++) {
            Boundary.due("major(" + k + ", 0) less 386", x.major(k, 0) - 386, x.major(k, 1));
        }
        Boundary.due("major(0, 1)", x.major(0, 1), 12);
        Boundary.due("major(11, 1)", x.major(11, 1), -56);
        Boundary.due("major(11, 2)", x.major(11, 2), 5648);
        ranges("13 minor", "third", 1, FifthBeats::minor);
        Boundary.sentence("13 minor: 0 its width, 1 what it is off");
        for (int k = 0; k < 12; k++) {
            Boundary.due("minor(" + k + ", 0) less 316", x.minor(k, 0) - 316, x.minor(k, 1));
        }
        Boundary.due("minor(0, 0)", x.minor(0, 0), 290);
        Boundary.due("minor(11, 0)", x.minor(11, 0), 256);
    }

    /** The note 2 has 1404 cents over the note 0, less 124 by the plan (the wolf is the fifth 0), less 80 or so. */
    private static int heightBeyondTheOctave(int off) {
        FifthBeats x = Boundary.planned(0, -10);
        Boundary.putOff(x, 0, 50);
        Boundary.putOff(x, 2, off);
        return x.note(2, 4);
    }

    private static void note() {
        ranges("14 note", "note", 4, FifthBeats::note);
        Boundary.sentence("14 note: how much higher than the note 0, as a remainder by 1200, 0 to 1199");
        Boundary.due("note(2, 4) at 1201", heightBeyondTheOctave(-29), 1);
        Boundary.due("note(2, 4) at 1200", heightBeyondTheOctave(-30), 0);
        Boundary.due("note(2, 4) at 1199", heightBeyondTheOctave(-31), 1199);
        FifthBeats x = new FifthBeats();
        Boundary.due("note(0, 4)", x.note(0, 4), 0);
        Boundary.putOff(x, 0, 9);
        Boundary.due("note(0, 4), itself off", x.note(0, 4), 0);
        Boundary.due("note(1, 4)", x.note(1, 4), 693);
        Boundary.due("note(11, 4), six octaves up", x.note(11, 4), 513);
        x.shift(0);
        Boundary.due("note(1, 4) over the wolf", x.note(1, 4), 669);
        Boundary.due("note(11, 4) over the wolf", x.note(11, 4), 489);
        Boundary.sentence("14 note: what it is off its plan, from -50 to 50; its drift, from -3 to 3");
        FifthBeats y = new FifthBeats();
        y.setDrift(0, 3);
        y.setDrift(11, -3);
        y.pass(100);
        Boundary.dueRow("note(k, 0)", Boundary.offs(y), 50, 0, 0, 0, 0, 0, 0, 0, 0, 0, 0, -50);
        Boundary.dueRow("note(k, 1)", Boundary.row(k -> y.note(k, 1)), 3, 0, 0, 0, 0, 0, 0, 0, 0, 0, 0, -3);
    }

    private static void keyPlaces() {
        Boundary.sentence("15 key: its place among all, from 1: the least sour one first");
        FifthBeats x = Boundary.worn();
        Boundary.dueRow("key(k, 1)", Boundary.row(k -> x.key(k, 1)),
            72, 133, 84, 123, 34, 125, 210, 77, 26, 64, 70, 124);
        Boundary.dueRow("key(k, 3), all others", Boundary.row(k -> x.key(k, 3)),
            5, 11, 7, 8, 2, 10, 12, 6, 1, 3, 4, 9);
        FifthBeats y = Boundary.withWolf(0);
        Boundary.due("key(0, 3), the last place", y.key(0, 3), 12);
        Boundary.due("key(9, 3), the first place", y.key(9, 3), 1);
        Boundary.sentence("15 key: of as sour ones the smallest number");
        FifthBeats even = Boundary.planned(11, 2);
        Boundary.dueRow("key(k, 1), all as sour", Boundary.row(k -> even.key(k, 1)),
            18, 18, 18, 18, 18, 18, 18, 18, 18, 18, 18, 18);
        Boundary.dueRow("key(k, 3), all as sour", Boundary.row(k -> even.key(k, 3)),
            1, 2, 3, 4, 5, 6, 7, 8, 9, 10, 11, 12);
        even.setOften(0, 9);
        even.setOften(5, 0);
        Boundary.dueRow("key(k, 3), however often", Boundary.row(k -> even.key(k, 3)),
            1, 2, 3, 4, 5, 6, 7, 8, 9, 10, 11, 12);
        Boundary.dueRow("key(k, 2)", Boundary.row(k -> even.key(k, 2)),
            162, 18, 18, 18, 18, 0, 18, 18, 18, 18, 18, 18);
        FifthBeats pairs = Boundary.withWolf(2);
        Boundary.dueRow("key(k, 3), as sour in part", Boundary.row(k -> pairs.key(k, 3)),
            1, 2, 12, 4, 5, 6, 7, 8, 9, 10, 11, 3);
    }

    private static void countArgument() {
        Boundary.sentence("16 count: IndexOutOfBoundsException if what is not 0 to 6");
        Boundary.range("count(..)", 0, 6, Boundary.INDEX, Boundary::worn, what -> x -> x.count(what));
        Boundary.sentence("16 count: nothing is changed");
        for (int what = 0; what <= 6; what++) {
            int by = what;
            Boundary.changesNothing("count(" + by + ")", Boundary::worn, x -> x.count(by));
        }
        Boundary.sentence("16 count: 0 the day, 1 the wolf, .. 6 the fastest beats");
        FifthBeats x = Boundary.worn();
        int[] counts = new int[7];
        for (int what = 0; what < 7; what++) {
            counts[what] = x.count(what);
        }
        Boundary.dueRow("count", counts, 17, 4, 1762, 76, 1, 185, 4537);
    }

    private static void countEdges() {
        Boundary.sentence("16 count: 2 the cost of all keys, added");
        FifthBeats x = new FifthBeats();
        Boundary.playOnly(x, 11, 0);
        Boundary.due("count(2), played never", x.count(2), 0);
        Boundary.playOnly(x, 11, 9);
        Boundary.due("count(2), the last key alone", x.count(2), 450);
        Boundary.playOnly(x, 0, 9);
        Boundary.due("count(2), the first key alone", x.count(2), 198);
        Boundary.sentence("16 count: 3 the most by which a major third is off, without its sign");
        FifthBeats wide = Boundary.planned(8, 20);
        Boundary.due("count(3), above 0", wide.count(3), 158);
        FifthBeats narrow = Boundary.planned(11, -10);
        Boundary.due("count(3), below 0", narrow.count(3), 82);
        FifthBeats first = new FifthBeats();
        Boundary.putOff(first, 0, -9);
        Boundary.due("count(3), the first third the most", first.count(3), 31);
        FifthBeats last = Boundary.withWolf(7);
        Boundary.putOff(last, 11, -9);
        Boundary.due("count(3), the last third the most", last.count(3), 31);
        Boundary.sentence("16 count: 4 pure fifths (with a narrowness of 0, the wolf as well)");
        FifthBeats y = new FifthBeats();
        y.setFifth(0, 20);
        y.setFifth(1, 4);
        Boundary.due("count(4), the wolf pure", y.count(4), 10);
        Boundary.putOff(y, 1, -4);
        Boundary.due("count(4), all but one pure", y.count(4), 11);
        Boundary.due("count(4), none pure", Boundary.planned(5, 1).count(4), 0);
        Boundary.due("count(4), the wolf alone not pure", new FifthBeats().count(4), 11);
        Boundary.sentence("16 count: 5 what all notes are off, without signs, added");
        FifthBeats z = new FifthBeats();
        Boundary.due("count(5), nothing off", z.count(5), 0);
        for (int note = 0; note < 12; note++) {
            z.setDrift(note, note % 2 == 0 ? 3 : -3);
        }
        z.pass(100);
        Boundary.due("count(5), all at an edge", z.count(5), 600);
    }

    private static void countFastest() {
        Boundary.sentence("16 count: 6 the fastest beats of a fifth that is not the wolf");
        FifthBeats x = new FifthBeats();
        Boundary.due("count(6), the wolf alone beats", x.count(6), 0);
        x.shift(4);
        Boundary.due("count(6), another wolf alone beats", x.count(6), 0);
        Boundary.due("count(6), the wolf 0 alone beats", Boundary.withWolf(0).count(6), 0);
        Boundary.putOff(x, 0, 1);
        Boundary.due("count(6), the fifths 11 and 0 beat", x.count(6), 60);
        x.shift(11);
        Boundary.due("count(6), what was the wolf is pure", x.count(6), 45);
        FifthBeats y = Boundary.withWolf(4);
        y.setFifth(11, -10);
        Boundary.due("count(6), the last fifth", y.count(6), 604);
        y.setFifth(0, 20);
        Boundary.due("count(6), the first fifth", y.count(6), 908);
    }

    public static void main(String[] args) {
        fifth();
        thirds();
        note();
        ranges("15 key", "key", 3, FifthBeats::key);
        keyPlaces();
        countArgument();
        countEdges();
        countFastest();
        Boundary.end();
    }
}
