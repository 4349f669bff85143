/** The boundary cases that the promises 1 to 5 name: a test for each such sentence. */
public final class PlanBoundaryTest {

    private static void newObject() {
        Boundary.sentence("1: pure fifths but the wolf, as it is by the plan, on the day 0");
        FifthBeats other = Boundary.worn();
        other.tuneAll();
        FifthBeats x = new FifthBeats();
        Boundary.dueRow("fifth(k, 0)", Boundary.plans(x), 0, 0, 0, 0, 0, 0, 0, 0, 0, 0, 0, 24);
        Boundary.dueRow("fifth(k, 1)", Boundary.narrownesses(x), 0, 0, 0, 0, 0, 0, 0, 0, 0, 0, 0, 24);
        Boundary.due("count(0)", x.count(0), 0);
        Boundary.due("count(1)", x.count(1), 11);
        Boundary.due("digest()", x.digest(), -3361777433988473238L);
    }

    private static void setFifthIndex() {
        Boundary.sentence("2 setFifth: IndexOutOfBoundsException if fifth is not 0 to 11");
        Boundary.range("setFifth(.., 1)", 0, 11, Boundary.INDEX, Boundary::worn, k -> x -> x.setFifth(k, 1));
        FifthBeats x = Boundary.withWolf(6);
        Boundary.due("setFifth(0, 1)", x.setFifth(0, 1), 0);
        Boundary.due("setFifth(11, 2)", x.setFifth(11, 2), 0);
        Boundary.dueRow("fifth(k, 0)", Boundary.plans(x), 1, 0, 0, 0, 0, 0, 21, 0, 0, 0, 0, 2);
    }

    private static void setFifthNarrow() {
        Boundary.sentence("2 setFifth: IllegalArgumentException if narrow is not -10 to 20");
        Boundary.range("setFifth(3, ..)", -10, 20, Boundary.ARGUMENT, Boundary::worn, n -> x -> x.setFifth(3, n));
        Boundary.sentence("2 setFifth: returns by how much before");
        FifthBeats x = new FifthBeats();
        Boundary.due("setFifth(3, -10)", x.setFifth(3, -10), 0);
        Boundary.due("setFifth(3, 20)", x.setFifth(3, 20), -10);
        Boundary.due("setFifth(3, 20), the same again", x.setFifth(3, 20), 20);
        Boundary.due("setFifth(3, 0)", x.setFifth(3, 0), 20);
        Boundary.dueRow("fifth(k, 0)", Boundary.plans(x), 0, 0, 0, 0, 0, 0, 0, 0, 0, 0, 0, 24);
    }

    private static void setFifthOfTheWolf() {
        Boundary.sentence("2 setFifth: IllegalStateException if it is the wolf");
        for (int wolf = 0; wolf < 12; wolf++) {
            int at = wolf;
            Boundary.refused("setFifth(" + at + ", 5), the wolf", Boundary.STATE, () -> Boundary.withWolf(at),
                x -> x.setFifth(at, 5));
            Boundary.refused("setFifth(" + at + ", 24), as it has", Boundary.ARGUMENT, () -> Boundary.withWolf(at),
                x -> x.setFifth(at, 24));
            Boundary.allowed("setFifth behind the wolf " + at, () -> Boundary.withWolf(at),
                x -> x.setFifth((at + 1) % 12, 5));
            Boundary.allowed("setFifth ahead of the wolf " + at, () -> Boundary.withWolf(at),
                x -> x.setFifth((at + 11) % 12, 5));
        }
        Boundary.sentence("2 setFifth: the exception that is named first is thrown");
        for (int narrow : new int[] {-11, 21}) {
            Boundary.refused("setFifth(-1, " + narrow + ")", Boundary.INDEX, Boundary::worn,
                x -> x.setFifth(-1, narrow));
            Boundary.refused("setFifth(12, " + narrow + ")", Boundary.INDEX, Boundary::worn,
                x -> x.setFifth(12, narrow));
            Boundary.refused("setFifth(4, " + narrow + "), the wolf", Boundary.ARGUMENT, Boundary::worn,
                x -> x.setFifth(4, narrow));
        }
    }

    private static void shiftIndex() {
        Boundary.sentence("3 shift: IndexOutOfBoundsException if fifth is not 0 to 11");
        Boundary.range("shift(..)", 0, 11, Boundary.INDEX, Boundary::worn, k -> x -> x.shift(k));
        FifthBeats x = new FifthBeats();
        x.setFifth(0, 7);
        Boundary.due("shift(0)", x.shift(0), 11);
        Boundary.dueRow("fifth(k, 0)", Boundary.plans(x), 17, 0, 0, 0, 0, 0, 0, 0, 0, 0, 0, 7);
        Boundary.due("shift(11)", x.shift(11), 0);
        Boundary.dueRow("fifth(k, 0)", Boundary.plans(x), 7, 0, 0, 0, 0, 0, 0, 0, 0, 0, 0, 17);
    }

    private static void shiftToTheWolf() {
        Boundary.sentence("3 shift: also the wolf itself (all stays then)");
        for (int wolf = 0; wolf < 12; wolf++) {
            int at = wolf;
            Boundary.changesNothing("shift(" + at + ")", () -> {
                FifthBeats x = Boundary.worn();
                x.shift(at);
                return x;
            }, x -> x.shift(at));
        }
        FifthBeats x = Boundary.worn();
        Boundary.due("shift(4), the wolf itself", x.shift(4), 4);
        Boundary.due("digest()", x.digest(), -1735161574249342857L);
    }

    private static void shiftOfAWolfBeyond() {
        Boundary.sentence("3 shift: each gets by the plan what the other has; what notes are off stays");
        FifthBeats x = Boundary.planned(11, 20);
        Boundary.putOff(x, 3, 5);
        Boundary.due("shift(3)", x.shift(3), 11);
        Boundary.dueRow("fifth(k, 0)", Boundary.plans(x), 20, 20, 20, -196, 20, 20, 20, 20, 20, 20, 20, 20);
        Boundary.dueRow("note(k, 0)", Boundary.offs(x), 0, 0, 0, 5, 0, 0, 0, 0, 0, 0, 0, 0);
        Boundary.due("setFifth(11, -10)", x.setFifth(11, -10), 20);
        Boundary.due("fifth(3, 0)", x.fifth(3, 0), -166);
        FifthBeats y = Boundary.planned(2, -10);
        Boundary.due("shift(9)", y.shift(9), 2);
        Boundary.dueRow("fifth(k, 0)", Boundary.plans(y),
            -10, -10, -10, -10, -10, -10, -10, -10, -10, 134, -10, -10);
        Boundary.dueRow("fifth(k, 4)", Boundary.row(k -> y.fifth(k, 4)), 0, 0, 0, 0, 0, 0, 0, 0, 0, 1, 0, 0);
    }

    private static void spreadArgument() {
        Boundary.sentence("4 spread: IllegalArgumentException if many is not 2 to 11");
        Boundary.range("spread(..)", 2, 11, Boundary.ARGUMENT, Boundary::worn, m -> x -> x.spread(m));
        for (int many : new int[] {1, 0, -1, 12, 24}) {
            Boundary.refused("spread(" + many + ")", Boundary.ARGUMENT, Boundary::worn, x -> x.spread(many));
        }
    }

    private static void dueSpread(int many, int... want) {
        FifthBeats x = Boundary.planned(11, 20);
        Boundary.due("spread(" + many + ")", x.spread(many), -196);
        Boundary.dueRow("fifth(k, 0) behind spread(" + many + ")", Boundary.plans(x), want);
    }

    private static void spreadRemainders() {
        Boundary.sentence("4 spread: the first ones, as many as the remainder of 24 by many, 1 more; the others 0");
        dueSpread(2, 12, 12, 0, 0, 0, 0, 0, 0, 0, 0, 0, 0);
        dueSpread(3, 8, 8, 8, 0, 0, 0, 0, 0, 0, 0, 0, 0);
        dueSpread(4, 6, 6, 6, 6, 0, 0, 0, 0, 0, 0, 0, 0);
        dueSpread(5, 5, 5, 5, 5, 4, 0, 0, 0, 0, 0, 0, 0);
        dueSpread(6, 4, 4, 4, 4, 4, 4, 0, 0, 0, 0, 0, 0);
        dueSpread(7, 4, 4, 4, 3, 3, 3, 3, 0, 0, 0, 0, 0);
        dueSpread(8, 3, 3, 3, 3, 3, 3, 3, 3, 0, 0, 0, 0);
        dueSpread(9, 3, 3, 3, 3, 3, 3, 2, 2, 2, 0, 0, 0);
        dueSpread(10, 3, 3, 3, 3, 2, 2, 2, 2, 2, 2, 0, 0);
        dueSpread(11, 3, 3, 2, 2, 2, 2, 2, 2, 2, 2, 2, 0);
    }

    private static void spreadAroundTheRing() {
        Boundary.sentence("4 spread: from that behind the wolf on, around the ring");
        FifthBeats x = Boundary.planned(0, -10);
        Boundary.due("spread(11) with the wolf 0", x.spread(11), 134);
        Boundary.dueRow("fifth(k, 0)", Boundary.plans(x), 0, 3, 3, 2, 2, 2, 2, 2, 2, 2, 2, 2);
        FifthBeats y = Boundary.planned(10, 5);
        Boundary.due("spread(2) with the wolf 10", y.spread(2), -31);
        Boundary.dueRow("fifth(k, 0)", Boundary.plans(y), 12, 0, 0, 0, 0, 0, 0, 0, 0, 0, 0, 12);
        FifthBeats z = Boundary.withWolf(5);
        Boundary.due("spread(7) with the wolf 5", z.spread(7), 24);
        Boundary.dueRow("fifth(k, 0)", Boundary.plans(z), 3, 0, 0, 0, 0, 0, 4, 4, 4, 3, 3, 3);
        Boundary.due("count(1)", z.count(1), 5);
        Boundary.sentence("4 spread: returns what the wolf had (it has 0 then); what notes are off stays");
        Boundary.due("spread(7) again", z.spread(7), 0);
        z.setFifth(0, 2);
        Boundary.due("spread(7) behind setFifth(0, 2)", z.spread(7), 1);
        FifthBeats w = Boundary.worn();
        Boundary.due("spread(11)", w.spread(11), 15);
        Boundary.due("fifth(4, 0)", w.fifth(4, 0), 0);
        Boundary.dueRow("note(k, 0)", Boundary.offs(w), 0, 50, 0, -34, 0, 0, -50, 17, 0, 0, 0, 34);
    }

    private static void setOften() {
        Boundary.sentence("5 setOften: IndexOutOfBoundsException if key is not 0 to 11");
        Boundary.range("setOften(.., 2)", 0, 11, Boundary.INDEX, Boundary::worn, k -> x -> x.setOften(k, 2));
        Boundary.sentence("5 setOften: IllegalArgumentException if often is not 0 to 9");
        Boundary.range("setOften(3, ..)", 0, 9, Boundary.ARGUMENT, Boundary::worn, o -> x -> x.setOften(3, o));
        Boundary.sentence("5 setOften: the exception that is named first is thrown");
        for (int often : new int[] {-1, 10}) {
            Boundary.refused("setOften(-1, " + often + ")", Boundary.INDEX, Boundary::worn,
                x -> x.setOften(-1, often));
            Boundary.refused("setOften(12, " + often + ")", Boundary.INDEX, Boundary::worn,
                x -> x.setOften(12, often));
        }
        Boundary.sentence("5 setOften: returns how often before");
        FifthBeats x = new FifthBeats();
        Boundary.due("setOften(11, 0)", x.setOften(11, 0), 1);
        Boundary.due("setOften(11, 9)", x.setOften(11, 9), 0);
        Boundary.due("setOften(11, 9), the same again", x.setOften(11, 9), 9);
        Boundary.due("setOften(0, 0)", x.setOften(0, 0), 1);
        Boundary.dueRow("key(k, 0)", Boundary.row(k -> x.key(k, 0)), 0, 1, 1, 1, 1, 1, 1, 1, 1, 1, 1, 9);
    }

    public static void main(String[] args) {
        newObject();
        setFifthIndex();
        setFifthNarrow();
        setFifthOfTheWolf();
        shiftIndex();
        shiftToTheWolf();
        shiftOfAWolfBeyond();
        spreadArgument();
        spreadRemainders();
        spreadAroundTheRing();
        setOften();
        Boundary.end();
    }
}
