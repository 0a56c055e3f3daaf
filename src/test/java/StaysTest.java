/**
 * Sentences that hold whatever else is with a MIX, a BATCH or a STORE, and what stays as it is,
 * since no sentence says that it changes: each by a test of its own.
 */
public final class StaysTest {
    private static final Check CHECK = new Check();

    public static void main(String[] args) {
        ageWithNothingLeft();
        ageOfALateMix();
        heatWithNothingLeft();
        provedBehindTheLastHour();
        creamBehindARun();
        batchesOfAMixWhereverTheyAre();
        restsBehindHours();
        allOnTheBelt();
        hardOnTheBelt();
        hoursByTheirFormula();
        calledOnesGrowCoarse();
        calledOnesAreHardened();
        soldFromAWarmStore();
        gainBehindACall();
        dayOfMixesAsTheyAre();
        twoHousesApart();
        CHECK.end();
    }

    private static void passDays(OverrunHouse h, int days) {
        for (int i = 0; i < days; i++) {
            h.pass(24);
        }
    }

    /** "MIX by MIX AGE is 1 more": also of one of which nothing is LEFT. */
    private static void ageWithNothingLeft() {
        OverrunHouse h = Houses.ready(2);
        h.run(0, 0, 100, 50);
        CHECK.same("left", h.ofMix(0, 1), 0);
        h.pass(3);
        CHECK.same("age", h.ofMix(0, 5), 7);
        CHECK.same("age of the other", h.ofMix(1, 5), 7);
    }

    /** "AGE is in hours (0 at first)", however many HOURS there were ahead of the MIX. */
    private static void ageOfALateMix() {
        OverrunHouse h = Houses.ingredients(1);
        passDays(h, 10);
        h.mix(0, 10);
        CHECK.same("age", h.ofMix(0, 5), 0);
        CHECK.same("too young", h.heat(0, 80, 15), true);
        CHECK.same("bars", h.bars(0, 0, 5, 20), 2);
        h.pass(4);
        CHECK.same("age then", h.ofMix(0, 5), 4);
        CHECK.same("bars then", h.bars(0, 0, 5, 20), 0);
    }

    /** "its AGE is 0 then", also with nothing LEFT: what bars a RUN tells so first. */
    private static void heatWithNothingLeft() {
        OverrunHouse h = Houses.ready(1);
        h.run(0, 0, 100, 50);
        CHECK.same("heat", h.heat(0, 20, 1), true);
        CHECK.same("age", h.ofMix(0, 5), 0);
        CHECK.same("bars", h.bars(0, 0, 5, 50), 2);
    }

    /** "one that is PROVED ahead of that stays so": no HOUR makes it not PROVED. */
    private static void provedBehindTheLastHour() {
        OverrunHouse h = Houses.ready(1);
        passDays(h, 3);
        CHECK.same("age", h.ofMix(0, 5), 76);
        CHECK.same("proved", h.ofMix(0, 4), 1);
        CHECK.same("bars", h.bars(0, 0, 5, 20), 3);
        passDays(h, 10);
        CHECK.same("proved still", h.ofMix(0, 4), 1);
        CHECK.same("bars still", h.bars(0, 0, 5, 20), 3);
    }

    /** CREAM is by FAT and MILK, and "nothing that is taken out changes them". */
    private static void creamBehindARun() {
        OverrunHouse h = new OverrunHouse();
        h.ingredient(100, 80, 160, 1, 0);
        h.ingredient(99, 80, 160, 1, 0);
        for (int mix = 0; mix < 2; mix++) {
            h.mix(mix, 100);
            h.heat(mix, 80, 15);
        }
        h.pass(4);
        h.run(0, 0, 90, 100);
        h.run(0, 1, 90, 140);
        CHECK.same("cream, 10 are left", h.ofMix(0, 6), 1);
        CHECK.same("no cream, 10 are left", h.ofMix(1, 6), 0);
        CHECK.same("barred", h.run(0, 0, 10, 101), -16);
        CHECK.same("not barred", h.run(0, 1, 10, 101), 2);
        h.run(0, 0, 10, 100);
        CHECK.same("cream, nothing is left", h.ofMix(0, 6), 1);
        CHECK.same("no cream, nothing is left", h.ofMix(1, 6), 0);
    }

    /** "8 how many BATCHES are of it": SOLD and LOST ones, those in a STORE and on the BELT. */
    private static void batchesOfAMixWhereverTheyAre() {
        OverrunHouse h = Houses.places();
        CHECK.same("lost", h.many(3), 2);
        CHECK.same("sold", h.many(4), 1);
        CHECK.same("of mix 0", h.ofMix(0, 8), 7);
        CHECK.same("of mix 1", h.ofMix(1, 8), 1);
        h.door(0, 20);
        h.pass(1);
        CHECK.same("lost then", h.many(3), 6);
        CHECK.same("of mix 0 then", h.ofMix(0, 8), 7);
        CHECK.same("of mix 1 then", h.ofMix(1, 8), 1);
    }

    /** RESTS are changed by a RUN and by a wash: no HOUR takes them away. */
    private static void restsBehindHours() {
        OverrunHouse h = Houses.ready(2);
        h.run(0, 1, 5, 20);
        h.run(1, 1, 5, 20);
        passDays(h, 10);
        h.heat(0, 80, 15);
        h.pass(4);
        CHECK.same("barrel 0", h.many(8), 1);
        CHECK.same("barrel 1", h.many(9), 1);
        CHECK.same("bars", h.bars(0, 0, 5, 20), 5);
        CHECK.same("washed", h.wash(1), 1);
    }

    /** "3 those that are LOST, 4 those that are SOLD": none, if as many as may be are on the BELT. */
    private static void allOnTheBelt() {
        OverrunHouse h = Houses.soft(12);
        CHECK.same("batches", h.many(2), 12);
        CHECK.same("lost", h.many(3), 0);
        CHECK.same("sold", h.many(4), 0);
        CHECK.same("bars", h.bars(1, 0, 10, 50), 7);
    }

    /** "BATCH by BATCH on the BELT that is not HARD: LOST": a HARD one is there for ever. */
    private static void hardOnTheBelt() {
        OverrunHouse h = Houses.hard(1);
        passDays(h, 20);
        CHECK.same("where", h.ofBatch(0, 3), -1);
        CHECK.same("crystal", h.crystal(0), 22.5);
        CHECK.same("would be", h.wouldBe(0, 48), 22.5);
        CHECK.same("laid", h.lay(0, 0), 1);
        CHECK.same("sold", h.sell(0, 1), 12);
    }

    /** Two batches, which freeze at different points, in a store that wants -23. */
    private static OverrunHouse twoFreezingPoints() {
        OverrunHouse h = new OverrunHouse();
        h.ingredient(40, 97, 173, 1, 0);
        h.ingredient(0, 3, 41, 1, 0);
        h.store(-23);
        for (int i = 0; i < 2; i++) {
            h.mix(i, 97);
            h.put(i, 1 - i, 6);
            h.heat(i, 80, 15);
        }
        h.pass(4);
        for (int i = 0; i < 2; i++) {
            h.run(0, i, 12, 50);
            h.harden(i, 10 + i);
            h.lay(i, 0);
        }
        return h;
    }

    private static double ice(double freezes, double t) {
        return t < freezes ? 1.0 - freezes / t : 0.0;
    }

    /**
     * "TEMP becomes TEMP + (SET - TEMP) * 0.25", "CRYSTAL is more by 24.0 * Math.abs of that", "just
     * in the order that is told": bit for bit, by an HOUR that cools and by one that warms, from the
     * large steps down to those that are so small that another order would answer another number.
     */
    private static void hoursByTheirFormula() {
        OverrunHouse h = twoFreezingPoints();
        double[] crystal = {22.5, 22.75};
        double[] freezes = {h.part(0, 3), h.part(1, 3)};
        int[] sets = {-13, -17, -29};
        for (int set : sets) {
            h.set(0, set);
            double temp = set == -29 ? h.door(0, 9) : h.temp(0);
            for (int hour = 1; hour <= 32; hour++) {
                double ahead = temp;
                temp = temp + (set - temp) * 0.25;
                h.pass(1);
                CHECK.same("temp, " + hour + " hours to " + set, h.temp(0), temp);
                for (int i = 0; i < 2; i++) {
                    double less = ice(freezes[i], ahead) - ice(freezes[i], temp);
                    crystal[i] = crystal[i] + 24.0 * Math.abs(less);
                    CHECK.same("crystal " + i + ", " + hour + " to " + set, h.crystal(i), crystal[i]);
                }
            }
        }
        CHECK.same("none is lost", h.many(3), 0);
    }

    /** "BATCH by BATCH in it": also those that are CALLED, and LOST as the others. */
    private static void calledOnesGrowCoarse() {
        OverrunHouse called = Houses.kept(10, -10);
        OverrunHouse other = Houses.kept(10, -10);
        called.call(0);
        for (int i = 0; i < 3; i++) {
            CHECK.same("would be", called.wouldBe(0, 5), other.wouldBe(0, 5));
            CHECK.same("would spoil", called.wouldSpoil(0, 9), other.wouldSpoil(0, 9));
            called.door(0, 2);
            other.door(0, 2);
            called.pass(1);
            other.pass(1);
            CHECK.same("coarser", called.crystal(0) > 22.5, true);
            CHECK.same("as the other", called.crystal(0), other.crystal(0));
        }
        called.door(0, 20);
        CHECK.same("lost", called.pass(1), 1);
        CHECK.same("called, lost", called.ofBatch(0, 5), 1);
    }

    /** What is CALLED can't be SOLD; of hardening and laying no sentence says so. */
    private static void calledOnesAreHardened() {
        OverrunHouse h = Houses.soft(1);
        h.store(-20);
        h.call(0);
        CHECK.same("called", h.ofBatch(0, 5), 1);
        CHECK.same("harden", h.harden(0, 20), 25.0);
        CHECK.same("lay", h.lay(0, 0), 1);
        CHECK.noState("sell", h, () -> h.sell(0, 1));
    }

    /** "It can be SOLD, if it is in a STORE": however warm, if no HOUR made it LOST. */
    private static void soldFromAWarmStore() {
        OverrunHouse h = Houses.kept(10, -12);
        CHECK.same("as warm as there may be", h.door(0, 20), 8.0);
        CHECK.same("would be lost", h.wouldBe(0, 1), -1.0);
        CHECK.same("sold", h.sell(0, 99), 15 * 99);
        CHECK.same("not lost then", h.pass(1), 0);
        CHECK.same("where", h.ofBatch(0, 3), 10);
    }

    /** "GAIN ever": nothing that is CALLED back, goes by or is WASHED takes of it. */
    private static void gainBehindACall() {
        OverrunHouse h = Houses.stored(12);
        int due = 0;
        for (int i = 0; i < 12; i++) {
            due += 12 * (99 - i);
            CHECK.same("gain", h.sell(i, 99 - i), due);
        }
        for (int i = 0; i < 6; i++) {
            h.call(i);
        }
        h.wash(0);
        h.pass(48);
        CHECK.same("gain ever", h.many(7), due);
        CHECK.same("sold ever", h.many(4), 12);
    }

    /** A DAY goes by the HARMS that the MIXES have when it is asked. */
    private static void dayOfMixesAsTheyAre() {
        OverrunHouse h = new OverrunHouse();
        h.ingredient(0, 0, 0, 1, 1);
        h.ingredient(0, 0, 0, 1, 2);
        h.mix(0, 10);
        h.mix(1, 10);
        CHECK.same("order", h.day(3, true), 12);
        CHECK.same("washes", h.day(3, false), 1);
        h.put(0, 1, 10);
        CHECK.same("order then", h.day(3, true), 21);
        CHECK.same("washes then", h.day(3, false), 0);
        h.put(1, 0, 10);
        CHECK.same("order of equal ones", h.day(3, true), 12);
        h.mix(0, 10);
        CHECK.same("order of three", h.day(7, true), 312);
        CHECK.same("washes of three", h.day(7, false), 0);
        CHECK.same("order of two", h.day(3, true), 12);
    }

    /** "Creates a house": what is told to one of them is nothing to another. */
    private static void twoHousesApart() {
        String due = LastLook.of(Houses.places());
        String none = LastLook.of(new OverrunHouse());
        OverrunHouse one = new OverrunHouse();
        OverrunHouse first = Houses.places();
        OverrunHouse second = Houses.stored(12);
        second.sell(0, 9);
        second.call(0);
        second.wash(1);
        second.door(0, 9);
        second.day(31, true);
        second.pass(9);
        CHECK.same("the first", LastLook.of(first), due);
        CHECK.same("the empty one", LastLook.of(one), none);
    }
}
