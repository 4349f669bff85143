import java.math.BigInteger;

/** The boundary cases that the promises 17 to 23 name: a test for each such sentence. */
public final class WouldBeBoundaryTest {

    private static void foreseeArguments() {
        Boundary.sentence("17 foresee: IllegalArgumentException if days is not 1 to 100");
        for (int what = 2; what <= 6; what++) {
            int by = what;
            Boundary.range("foresee(.., " + by + ")", 1, 100, Boundary.ARGUMENT, Boundary::worn,
                d -> x -> x.foresee(d, by));
        }
        Boundary.sentence("17 foresee: IndexOutOfBoundsException if what is not 2 to 6");
        Boundary.range("foresee(1, ..)", 2, 6, Boundary.INDEX, Boundary::worn, what -> x -> x.foresee(1, what));
        Boundary.range("foresee(100, ..)", 2, 6, Boundary.INDEX, Boundary::worn, what -> x -> x.foresee(100, what));
        Boundary.refused("foresee(1, 0), as count() has it", Boundary.INDEX, Boundary::worn, x -> x.foresee(1, 0));
        Boundary.sentence("17 foresee: the exception that is named first is thrown");
        for (int what : new int[] {-1, 0, 1, 7}) {
            Boundary.refused("foresee(0, " + what + ")", Boundary.ARGUMENT, Boundary::worn, x -> x.foresee(0, what));
            Boundary.refused("foresee(101, " + what + ")", Boundary.ARGUMENT, Boundary::worn,
                x -> x.foresee(101, what));
        }
    }

    private static void foreseeDays() {
        Boundary.sentence("17 foresee: this, behind so many days, if nothing is done by hand");
        FifthBeats x = new FifthBeats();
        Boundary.putOff(x, 3, -50);
        x.setDrift(3, 1);
        x.setDrift(5, -3);
        Boundary.due("foresee(1, 5)", x.foresee(1, 5), 52);
        Boundary.due("foresee(16, 5)", x.foresee(16, 5), 82);
        Boundary.due("foresee(17, 5), one at its edge", x.foresee(17, 5), 83);
        Boundary.due("foresee(50, 5), the other at 0", x.foresee(50, 5), 50);
        Boundary.due("foresee(99, 5)", x.foresee(99, 5), 99);
        Boundary.due("foresee(100, 5), both at their edges", x.foresee(100, 5), 100);
        Boundary.due("foresee(50, 4)", x.foresee(50, 4), 9);
        Boundary.due("foresee(49, 4)", x.foresee(49, 4), 7);
        Boundary.due("foresee(1, 6), not the wolf", x.foresee(1, 6), 3736);
        Boundary.sentence("17 foresee: nothing is changed");
        for (int what = 2; what <= 6; what++) {
            int by = what;
            Boundary.changesNothing("foresee(100, " + by + ")", Boundary::worn, y -> y.foresee(100, by));
            for (int days : new int[] {1, 2, 99, 100}) {
                FifthBeats behind = Boundary.worn();
                behind.pass(days);
                Boundary.due("foresee(" + days + ", " + by + ")", Boundary.worn().foresee(days, by),
                    behind.count(by));
            }
        }
    }

    private static void untilArgument() {
        Boundary.sentence("18 until: IllegalArgumentException if beats is not 1 to 9999");
        Boundary.range("until(..)", 1, 9999, Boundary.ARGUMENT, Boundary::worn, b -> x -> x.until(b));
        Boundary.range("until(..), nothing beats", 1, 9999, Boundary.ARGUMENT, FifthBeats::new, b -> x -> x.until(b));
    }

    /** The fifth 5, the fastest of all, beats faster by 85.6 for each cent. */
    private static FifthBeats widening() {
        FifthBeats x = new FifthBeats();
        x.setFifth(4, 20);
        x.setFifth(6, -10);
        x.setDrift(5, 3);
        x.setDrift(6, 1);
        return x;
    }

    private static void untilAsFast() {
        Boundary.sentence("18 until: some fifth that is not the wolf beats as fast or faster");
        FifthBeats x = new FifthBeats();
        x.setFifth(5, 3);
        Boundary.due("until(255), slower", x.until(255), 0);
        Boundary.due("until(256), as fast", x.until(256), 0);
        Boundary.due("until(257), faster", x.until(257), -1);
        x.setDrift(5, 1);
        Boundary.due("until(257) with a drift", x.until(257), 1);
        Boundary.due("until(342), as fast tomorrow", x.until(342), 1);
        Boundary.due("until(343)", x.until(343), 2);
        FifthBeats wolf = new FifthBeats();
        Boundary.due("until(1), the wolf alone beats", wolf.until(1), -1);
        wolf.shift(3);
        Boundary.due("until(1), another wolf alone beats", wolf.until(1), -1);
        wolf.shift(0);
        Boundary.due("until(1), the wolf 0 alone beats", wolf.until(1), -1);
        wolf.setFifth(11, 1);
        Boundary.due("until(60), the last fifth", wolf.until(60), 0);
        Boundary.due("until(61), the last fifth", wolf.until(61), -1);
        FifthBeats most = Boundary.planned(11, 20);
        Boundary.putOff(most, 5, 50);
        Boundary.putOff(most, 6, -50);
        Boundary.due("until(9999), faster even", most.until(9999), 0);
        most.setFifth(5, 16);
        Boundary.due("until(9931), as fast", most.until(9931), 0);
        Boundary.due("until(9932)", most.until(9932), -1);
    }

    private static void untilDays() {
        Boundary.sentence("18 until: 0 if it does now, at most 200; -1 if not by then");
        FifthBeats x = new FifthBeats();
        Boundary.putOff(x, 1, -50);
        x.setFifth(1, 10);
        x.setDrift(1, 1);
        Boundary.due("until(2717), now", x.until(2717), 0);
        Boundary.due("until(2718), not before the other side", x.until(2718), 81);
        Boundary.due("until(4008), behind 99 days", x.until(4008), 99);
        Boundary.due("until(4009), behind 100 days", x.until(4009), 100);
        Boundary.due("until(4076), behind 100 days", x.until(4076), 100);
        Boundary.due("until(4077), never", x.until(4077), -1);
        x.setDrift(1, 0);
        Boundary.due("until(3397), no drift any more", x.until(3397), -1);
        Boundary.sentence("18 until: behind how many days, also if it beats slower again later");
        FifthBeats y = widening();
        Boundary.due("until(2825), at its fastest", y.until(2825), 17);
        Boundary.due("until(2826), faster than it ever will", y.until(2826), -1);
        Boundary.due("until(2739), on the day before", y.until(2739), 16);
        Boundary.due("until(2740)", y.until(2740), 17);
        Boundary.sentence("18 until: nothing is changed");
        Boundary.changesNothing("until(1)", Boundary::worn, z -> z.until(1));
        Boundary.changesNothing("until(4600)", Boundary::worn, z -> z.until(4600));
        Boundary.changesNothing("until(9999)", Boundary::worn, z -> z.until(9999));
    }

    private static void advise() {
        Boundary.sentence("19 advise: of several the smallest number");
        FifthBeats x = new FifthBeats();
        Boundary.due("advise(), all as dear", x.advise(), 0);
        Boundary.playOnly(x, 0, 0);
        Boundary.due("advise() if nobody plays", x.advise(), 0);
        Boundary.playOnly(x, 0, 1);
        Boundary.due("advise(), 1 to 3 as cheap", x.advise(), 1);
        Boundary.playOnly(x, 9, 1);
        Boundary.due("advise(), 0, 10 and 11 as cheap", x.advise(), 0);
        Boundary.sentence("19 advise: the fifth to which the wolf had best be shifted (or where it is)");
        x.setOften(8, 1);
        Boundary.due("advise(), 10 and 11 as cheap", x.advise(), 10);
        x.setOften(10, 1);
        Boundary.due("advise(), where it is, the last", x.advise(), 11);
        x.shift(0);
        Boundary.due("advise(), the last, where it is not", x.advise(), 11);
        FifthBeats y = Boundary.withWolf(6);
        Boundary.playOnly(y, 9, 1);
        y.setOften(10, 1);
        y.setOften(11, 1);
        Boundary.due("advise(), the first", y.advise(), 0);
        y.shift(0);
        Boundary.due("advise(), where it is, the first", y.advise(), 0);
        Boundary.sentence("19 advise: nothing is changed");
        Boundary.changesNothing("advise()", Boundary::worn, z -> z.advise());
        Boundary.changesNothing("advise(), the wolf beyond 20", () -> Boundary.planned(11, -10), z -> z.advise());
    }

    private static void temperArgument() {
        Boundary.sentence("20 temper: IndexOutOfBoundsException if fifth is not 0 to 11");
        Boundary.range("temper(..)", 0, 11, Boundary.INDEX, Boundary::worn, k -> x -> x.temper(k));
        Boundary.sentence("20 temper: IllegalStateException if it is the wolf");
        for (int wolf = 0; wolf < 12; wolf++) {
            int at = wolf;
            Boundary.refused("temper(" + at + "), the wolf", Boundary.STATE, () -> Boundary.withWolf(at),
                x -> x.temper(at));
            Boundary.allowed("temper behind the wolf " + at, () -> Boundary.withWolf(at),
                x -> x.temper((at + 1) % 12));
            Boundary.allowed("temper ahead of the wolf " + at, () -> Boundary.withWolf(at),
                x -> x.temper((at + 11) % 12));
        }
    }

    private static void temperEdges() {
        Boundary.sentence("20 temper: by how much, -10 to 20");
        FifthBeats x = new FifthBeats();
        Boundary.playOnly(x, 0, 1);
        Boundary.due("temper(1), 22 were better than 20", x.temper(1), 20);
        x.setFifth(2, 3);
        Boundary.due("temper(1), 19 is best", x.temper(1), 19);
        x.setFifth(2, 2);
        Boundary.due("temper(1), 20 is best", x.temper(1), 20);
        FifthBeats y = new FifthBeats();
        Boundary.playOnly(y, 0, 1);
        y.setFifth(2, 20);
        y.setFifth(3, 12);
        Boundary.due("temper(1), -10 is best", y.temper(1), -10);
        y.setFifth(3, 11);
        Boundary.due("temper(1), -9 is best", y.temper(1), -9);
        y.setFifth(3, 13);
        Boundary.due("temper(1), -11 were better than -10", y.temper(1), -10);
        Boundary.sentence("20 temper: what it has now as well");
        FifthBeats z = new FifthBeats();
        Boundary.playOnly(z, 0, 1);
        Boundary.due("temper(0), what it has", z.temper(0), 0);
        z.setFifth(1, 20);
        z.setFifth(2, 2);
        Boundary.due("temper(1), what it has", z.temper(1), 20);
        Boundary.due("temper(2), what it has", z.temper(2), 2);
        Boundary.sentence("20 temper: of several the least");
        Boundary.due("temper(8), of no weight", z.temper(8), -10);
        z.setFifth(8, 20);
        Boundary.due("temper(8), of no weight, with 20 now", z.temper(8), -10);
        FifthBeats w = new FifthBeats();
        Boundary.playOnly(w, 0, 1);
        w.setOften(8, 1);
        Boundary.due("temper(1), 2 to 20 as good", w.temper(1), 2);
        w.setFifth(1, 7);
        Boundary.due("temper(1), 2 to 20 as good, 7 now", w.temper(1), 2);
        Boundary.sentence("20 temper: nothing is changed");
        for (int fifth : new int[] {0, 3, 5, 11}) {
            Boundary.changesNothing("temper(" + fifth + ")", Boundary::worn, v -> v.temper(fifth));
        }
    }

    private static void next() {
        Boundary.sentence("21 next: -1 if by none it would be less than now");
        FifthBeats x = new FifthBeats();
        Boundary.due("next() of a new one", x.next(), -1);
        Boundary.putOff(x, 6, -3);
        Boundary.playOnly(x, 0, 0);
        Boundary.due("next(), as cheap but not less", x.next(), -1);
        x.setOften(6, 1);
        Boundary.due("next(), less by it", x.next(), 6);
        Boundary.sentence("21 next: of those that can be tuned");
        FifthBeats y = new FifthBeats();
        Boundary.playOnly(y, 0, 1);
        Boundary.putOff(y, 0, -15);
        Boundary.due("next(), the note 0 cannot be tuned", y.next(), 1);
        y.shift(10);
        Boundary.due("next(), the note 0 can be tuned", y.next(), 0);
        FifthBeats last = Boundary.withWolf(5);
        Boundary.playOnly(last, 7, 1);
        Boundary.putOff(last, 11, 15);
        Boundary.due("next(), the last note", last.next(), 11);
        last.shift(10);
        Boundary.due("next(), the last note cannot be tuned", last.next(), -1);
        Boundary.sentence("21 next: of several the smallest number");
        FifthBeats z = Boundary.withWolf(10);
        Boundary.playOnly(z, 1, 1);
        z.setOften(6, 1);
        Boundary.putOff(z, 5, 15);
        Boundary.putOff(z, 10, 15);
        Boundary.due("next(), 5 and 10 as good", z.next(), 5);
        Boundary.putOff(z, 10, 16);
        Boundary.due("next(), 10 better by 1", z.next(), 10);
        Boundary.sentence("21 next: nothing is changed");
        Boundary.changesNothing("next()", Boundary::worn, w -> w.next());
        Boundary.changesNothing("next(), -1", FifthBeats::new, w -> w.next());
    }

    private static void mean() {
        Boundary.sentence("22 mean: the mean sourness of all keys, however often they are played");
        FifthBeats x = new FifthBeats();
        Boundary.dueMean("mean()", x.mean(), 232 / 12.0);
        Boundary.playOnly(x, 0, 0);
        Boundary.dueMean("mean() if nobody plays", x.mean(), 232 / 12.0);
        Boundary.playOnly(x, 11, 9);
        Boundary.dueMean("mean() of one key played", x.mean(), 232 / 12.0);
        Boundary.dueMean("mean(), whole", Boundary.planned(11, 2).mean(), 18.0);
        Boundary.dueMean("mean(), worn", Boundary.worn().mean(), 1142 / 12.0);
        Boundary.changesNothing("mean()", Boundary::worn, w -> Double.doubleToLongBits(w.mean()));
    }

    private static final class Sum {
        private BigInteger d = BigInteger.valueOf(1697);

        void add(int x) {
            d = d.multiply(BigInteger.valueOf(31)).add(BigInteger.valueOf(x));
        }
    }

    /** Reckoned without a bound, and cut to 64 bits at the end. */
    private static long digestOf(FifthBeats x) {
        Sum sum = new Sum();
        for (int what = 0; what <= 6; what++) {
            sum.add(x.count(what));
        }
        for (int k = 0; k < 12; k++) {
            for (int what = 0; what <= 4; what++) {
                sum.add(x.fifth(k, what));
            }
            for (int what = 0; what <= 2; what++) {
                sum.add(x.major(k, what));
            }
            for (int what = 0; what <= 1; what++) {
                sum.add(x.minor(k, what));
            }
            for (int what = 0; what <= 4; what++) {
                sum.add(x.note(k, what));
            }
            for (int what = 0; what <= 3; what++) {
                sum.add(x.key(k, what));
            }
        }
        return sum.d.longValue();
    }

    private static void digest() {
        Boundary.sentence("23 digest: starts with 1697, wraps around as a 64-bit integer");
        Boundary.due("digest() of a new one", new FifthBeats().digest(), -3361777433988473238L);
        Boundary.due("digest(), worn", Boundary.worn().digest(), -1735161574249342857L);
        for (int wolf = 0; wolf < 12; wolf++) {
            FifthBeats x = Boundary.worn();
            x.shift(wolf);
            Boundary.due("digest() with the wolf " + wolf, x.digest(), digestOf(x));
        }
        Boundary.changesNothing("digest()", Boundary::worn, x -> x.digest());
    }

    public static void main(String[] args) {
        foreseeArguments();
        foreseeDays();
        untilArgument();
        untilAsFast();
        untilDays();
        advise();
        temperArgument();
        temperEdges();
        next();
        mean();
        digest();
        Boundary.end();
    }
}
