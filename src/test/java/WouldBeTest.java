/** Promises 24 to 27: the day, what would be, and the digest. */
public final class WouldBeTest {
    private static final Check CHECK = new Check();

    public static void main(String[] args) {
        dayOfWrongSets();
        dayOfFew();
        dayWithWashes();
        dayOfFive();
        dayOfAllHarms();
        wouldBe();
        wouldBeOnTheBelt();
        wouldBeLost();
        wouldSpoil();
        wouldSpoilAtTheEdge();
        digestOfNew();
        digest();
        digestAsksWhatSpoils();
        digestAsksWhatBars();
        digestOfAFullHouse();
        CHECK.end();
    }

    /** One mix for each of these HARMS. */
    private static OverrunHouse withHarms(int... harms) {
        OverrunHouse h = new OverrunHouse();
        for (int i = 0; i < harms.length; i++) {
            h.ingredient(0, 0, 0, 1, harms[i]);
            h.mix(i, 10);
        }
        return h;
    }

    private static void day(OverrunHouse h, int set, int order, int washes) {
        long before = h.digest();
        CHECK.same("day(" + set + ", true)", h.day(set, true), order);
        CHECK.same("day(" + set + ", false)", h.day(set, false), washes);
        CHECK.same("day changes nothing", h.digest(), before);
    }

    private static void dayOfWrongSets() {
        OverrunHouse none = new OverrunHouse();
        day(none, 0, 0, 0);
        CHECK.noArgument("day(1) without mixes", none, () -> none.day(1, true));
        OverrunHouse h = withHarms(1, 2);
        CHECK.noArgument("day(4)", h, () -> h.day(4, true));
        CHECK.noArgument("day(5)", h, () -> h.day(5, false));
        CHECK.noArgument("day(-1)", h, () -> h.day(-1, true));
        CHECK.noArgument("day(MIN)", h, () -> h.day(Integer.MIN_VALUE, false));
        CHECK.noArgument("day(MAX)", h, () -> h.day(Integer.MAX_VALUE, true));
        OverrunHouse five = withHarms(1, 2, 3, 4, 5);
        CHECK.noArgument("day(32)", five, () -> five.day(32, true));
    }

    private static void dayOfFew() {
        OverrunHouse h = withHarms(1, 3, 2);
        day(h, 0, 0, 0);
        day(h, 1, 1, 0);
        day(h, 4, 3, 0);
        day(h, 3, 12, 0);
        day(h, 6, 32, 0);
        day(h, 5, 13, 1);
        day(h, 7, 123, 1);
    }

    private static void dayWithWashes() {
        OverrunHouse h = withHarms(8, 4, 2, 1);
        day(h, 15, 1234, 3);
        day(h, 10, 24, 1);
        OverrunHouse g = withHarms(15, 7, 3, 1);
        day(g, 15, 4321, 0);
        day(g, 13, 431, 0);
    }

    /** No wash is needed from 1 to 3, from 2 to 5, from 4 to 5, and nowhere else. */
    private static void dayOfFive() {
        OverrunHouse h = withHarms(1, 2, 9, 4, 6);
        day(h, 31, 13245, 2);
        day(h, 30, 2345, 2);
        day(h, 26, 245, 1);
    }

    private static void dayOfAllHarms() {
        OverrunHouse h = withHarms(0, 15, 0, 15, 0);
        day(h, 31, 13524, 0);
        day(h, 10, 24, 0);
        OverrunHouse g = withHarms(15, 0, 15, 0, 15);
        day(g, 31, 24135, 0);
    }

    /** Two batches (they freeze at -3.0) in a store that has -4.0, and wants -20. */
    private static OverrunHouse warm(int minutes, int other) {
        OverrunHouse h = new OverrunHouse();
        h.ingredient(0, 0, 480, 1, 0);
        h.mix(0, 100);
        h.heat(0, 80, 15);
        h.pass(4);
        h.run(0, 0, 12, 50);
        h.run(0, 0, 12, 50);
        h.harden(0, minutes);
        h.harden(1, other);
        h.store(-10);
        h.lay(0, 0);
        h.lay(1, 0);
        h.door(0, 4);
        h.set(0, -20);
        return h;
    }

    private static double ice(double t) {
        return t < -3.0 ? 1.0 - -3.0 / t : 0.0;
    }

    private static void wouldBe() {
        OverrunHouse h = warm(10, 11);
        CHECK.noIndex("batch -1", h, () -> h.wouldBe(-1, 1));
        CHECK.noIndex("batch 2", h, () -> h.wouldBe(2, 1));
        CHECK.noIndex("batch 2, hours 0", h, () -> h.wouldBe(2, 0));
        CHECK.noArgument("hours 0", h, () -> h.wouldBe(0, 0));
        CHECK.noArgument("hours 49", h, () -> h.wouldBe(0, 49));
        long before = h.digest();
        CHECK.same("1 hour", h.wouldBe(0, 1), 31.5);
        CHECK.same("1 hour, the other", h.wouldBe(1, 1), 31.75);
        CHECK.same("2 hours", h.wouldBe(0, 2), 31.5 + 24.0 * (ice(-11.0) - ice(-8.0)));
        double would = h.wouldBe(0, 48);
        CHECK.same("nothing is changed", h.digest(), before);
        h.pass(48);
        CHECK.same("48 hours", h.crystal(0), would);
        h.sell(0, 1);
        CHECK.same("sold", h.wouldBe(0, 1), -1.0);
        CHECK.same("the other is not", h.wouldBe(1, 1) > 0.0, true);
        CHECK.noArgument("sold, hours 0", h, () -> h.wouldBe(0, 0));
    }

    private static void wouldBeOnTheBelt() {
        OverrunHouse h = warm(10, 11);
        h.run(0, 0, 5, 20);
        CHECK.same("soft on the belt", h.wouldBe(2, 1), -1.0);
        CHECK.same("it is there still", h.ofBatch(2, 3), -1);
        h.harden(2, 20);
        CHECK.same("hard on the belt", h.wouldBe(2, 48), 25.0);
        h.run(0, 0, 5, 20);
        h.pass(1);
        CHECK.same("lost on the belt", h.wouldBe(3, 1), -1.0);
    }

    /** -3.0, where the mix freezes, is not below: the first hour loses the batch. */
    private static void wouldBeLost() {
        OverrunHouse h = warm(10, 90);
        h.lay(1, 0);
        h.store(-12);
        h.door(1, 6);
        CHECK.same("temp", h.temp(1), -3.0);
        h.lay(0, 1);
        CHECK.same("would be lost", h.wouldBe(0, 1), -1.0);
        CHECK.same("would be lost by then", h.wouldBe(0, 48), -1.0);
        CHECK.same("in the other store not", h.wouldBe(1, 1), 51.5);
        CHECK.same("none is lost by asking", h.many(3), 0);
        h.pass(1);
        CHECK.same("lost", h.ofBatch(0, 3), 11);
        CHECK.same("lost, asked", h.wouldBe(0, 1), -1.0);
    }

    private static void wouldSpoil() {
        OverrunHouse h = warm(10, 85);
        CHECK.noIndex("store -1", h, () -> h.wouldSpoil(-1, 0));
        CHECK.noIndex("store 1", h, () -> h.wouldSpoil(1, 0));
        CHECK.noIndex("store 1, often 21", h, () -> h.wouldSpoil(1, 21));
        CHECK.noArgument("often -1", h, () -> h.wouldSpoil(0, -1));
        CHECK.noArgument("often 21", h, () -> h.wouldSpoil(0, 21));
        long before = h.digest();
        CHECK.same("one coarse", h.wouldSpoil(0, 0), 1);
        CHECK.same("both lost", h.wouldSpoil(0, 1), 2);
        CHECK.same("both lost, 20 times", h.wouldSpoil(0, 20), 2);
        CHECK.same("nothing is changed", h.digest(), before);
        CHECK.same("temp", h.temp(0), -4.0);
        h.pass(1);
        CHECK.same("one coarse by now", h.wouldSpoil(0, 0), 0);
        CHECK.same("one coarse by now, one lost then", h.wouldSpoil(0, 20), 1);
        h.store(-20);
        CHECK.same("none in it", h.wouldSpoil(1, 20), 0);
        h.lay(0, 1);
        CHECK.same("one in it", h.wouldSpoil(1, 20), 1);
        h.sell(0, 1);
        CHECK.same("one sold of it", h.wouldSpoil(1, 20), 0);
    }

    /** CRYSTAL of just 50.0, and a store that is as cold as it should be: nothing changes it. */
    private static void wouldSpoilAtTheEdge() {
        OverrunHouse h = warm(84, 85);
        h.store(-12);
        h.pass(1);
        CHECK.same("just 50", h.crystal(0), 50.0);
        h.lay(0, 1);
        CHECK.same("just 50 stays", h.wouldBe(0, 24), 50.0);
        CHECK.same("just 50 is not coarse", h.wouldSpoil(1, 0), 0);
        CHECK.same("one more opening", h.wouldSpoil(1, 1), 1);
        h.pass(24);
        CHECK.same("just 50, behind 24 hours", h.ofBatch(0, 4), 0);
        hoursAreTwentyFour();
    }

    /** One batch in a store that has -10.0 and so many openings more, and wants this. */
    private static OverrunHouse slow(int sugar, int minutes, int openings, int set) {
        OverrunHouse h = new OverrunHouse();
        h.ingredient(0, 0, sugar, 1, 0);
        h.mix(0, 100);
        h.heat(0, 80, 15);
        h.pass(4);
        h.run(0, 0, 12, 50);
        h.harden(0, minutes);
        h.store(-10);
        h.lay(0, 0);
        h.door(0, openings);
        h.set(0, set);
        return h;
    }

    /** The first batch grows coarse in its 24th hour, the other one in its 25th. */
    private static void hoursAreTwentyFour() {
        OverrunHouse h = slow(258, 70, 5, -13);
        CHECK.same("not coarse behind 23", h.wouldBe(0, 23) > 50.0, false);
        CHECK.same("coarse behind 24", h.wouldBe(0, 24) > 50.0, true);
        CHECK.same("spoils by 24", h.wouldSpoil(0, 0), 1);
        OverrunHouse g = slow(313, 82, 4, -21);
        CHECK.same("not coarse behind 24", g.wouldBe(0, 24) > 50.0, false);
        CHECK.same("coarse behind 25", g.wouldBe(0, 25) > 50.0, true);
        CHECK.same("does not spoil by 24", g.wouldSpoil(0, 0), 0);
    }

    private static long next(long d, long v) {
        return d * 31 + v;
    }

    private static void digestOfNew() {
        long d = 9606;
        for (int i = 0; i < 14; i++) {
            d = next(d, 0);
        }
        CHECK.same("digest of a new house", new OverrunHouse().digest(), d);
    }

    private static void digest() {
        OverrunHouse h = warm(10, 85);
        h.ingredient(0, 0, 0, 2, 5);
        h.mix(1, 60);
        h.ingredient(0, 0, 0, 2, 2);
        h.mix(2, 60);
        h.put(2, 0, 13);
        h.store(-17);
        h.door(1, 3);
        h.pass(2);
        h.wash(1);
        digestIs(h);
        h.sell(0, 5);
        h.call(0);
        h.pass(3);
        digestIs(h);
    }

    /** Batch 0 is lost by one opening more, batch 1 as it is. */
    private static void digestAsksWhatSpoils() {
        OverrunHouse h = warm(10, 11);
        h.store(-12);
        h.door(1, 10);
        h.lay(1, 1);
        CHECK.same("none in 0", h.wouldSpoil(0, 0), 0);
        CHECK.same("one in 0", h.wouldSpoil(0, 1), 1);
        CHECK.same("one in 1", h.wouldSpoil(1, 0), 1);
        CHECK.same("above 0", h.temp(1), 3.0);
        digestIs(h);
    }

    /** 20 kilograms are left of mix 0, 19 of mix 1; barrel 0 bars mix 2, barrel 1 does not. */
    private static void digestAsksWhatBars() {
        OverrunHouse h = withHarms(1, 1, 0);
        h.put(0, 0, 20);
        h.put(1, 1, 19);
        h.put(2, 2, 20);
        for (int i = 0; i < 3; i++) {
            h.heat(i, 80, 15);
        }
        h.pass(4);
        h.run(0, 0, 10, 20);
        h.run(0, 1, 10, 20);
        CHECK.same("bars(0, 0)", h.bars(0, 0, 20, 80), 0);
        CHECK.same("bars(0, 1)", h.bars(0, 1, 20, 80), 4);
        CHECK.same("bars(0, 2)", h.bars(0, 2, 20, 80), 5);
        CHECK.same("bars(1, 2)", h.bars(1, 2, 20, 80), 0);
        digestIs(h);
    }

    /** As many of all as there may be: no row lies behind the last one. */
    private static void digestOfAFullHouse() {
        OverrunHouse h = withHarms(1, 3, 7, 5, 4);
        h.ingredient(0, 0, 480, 1, 0);
        for (int i = 0; i < 5; i++) {
            h.put(i, 5, 490);
            h.heat(i, 80, 15);
        }
        for (int i = 0; i < 3; i++) {
            h.store(-10 - i);
        }
        h.pass(4);
        for (int i = 0; i < 12; i++) {
            h.wash(0);
            CHECK.same("run", h.run(0, i % 5, 10 + i, 20 + i), i);
            if (i > 0) {
                h.harden(i, 10 + i);
                h.lay(i, i % 3);
            }
        }
        digestIs(h);
        h.door(2, 9);
        CHECK.same("pass: the soft one is lost", h.pass(1), 1 + 4);
        CHECK.same("where the soft one is", h.ofBatch(0, 3), 11);
        h.sell(1, 99);
        CHECK.same("call", h.call(5), h.ofBatch(1, 1));
        digestIs(h);
    }

    private static void digestIs(OverrunHouse h) {
        long d = 9606;
        for (int what = 0; what <= 11; what++) {
            d = next(d, h.many(what));
        }
        for (int mix = 0; mix < h.many(1); mix++) {
            for (int what = 0; what <= 8; what++) {
                d = next(d, h.ofMix(mix, what));
            }
            d = next(d, h.bars(0, mix, 20, 80));
        }
        for (int batch = 0; batch < h.many(2); batch++) {
            for (int what = 0; what <= 5; what++) {
                d = next(d, h.ofBatch(batch, what));
            }
            d = next(d, (long) (h.crystal(batch) * 8));
        }
        for (int store = 0; store < h.many(5); store++) {
            d = next(d, (long) (h.temp(store) * 8));
            d = next(d, h.wouldSpoil(store, 0));
        }
        int all = (1 << h.many(1)) - 1;
        d = next(d, h.day(all, true));
        d = next(d, h.day(all, false));
        CHECK.same("digest", h.digest(), d);
        CHECK.same("digest again", h.digest(), d);
    }
}
