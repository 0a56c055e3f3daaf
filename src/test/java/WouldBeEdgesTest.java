import java.math.BigInteger;

/** Promises 24 to 27: each sentence that names an edge, by a test of its own. */
public final class WouldBeEdgesTest {
    private static final String INDEX = Edges.INDEX;
    private static final String ARGUMENT = Edges.ARGUMENT;
    private static final Check CHECK = new Check();
    private static final Edges NEW = new Edges(CHECK, "new", OverrunHouse::new);
    private static final Edges ONE = new Edges(CHECK, "one of each", Houses::one);
    private static final Edges STORED = new Edges(CHECK, "12 stored", () -> Houses.stored(12));
    private static final Edges PLACES = new Edges(CHECK, "in all places", Houses::places);

    public static void main(String[] args) {
        setsOfADay();
        emptySet();
        dayOfASingleMix();
        dayWithoutAWash();
        dayWithAsManyWashes();
        smallestOfTheBest();
        fewestGoAheadOfSmallest();
        startsWashed();
        dayOfAnyMix();
        dayByAllOrders();
        batchThatWouldBe();
        hoursThatWouldBe();
        wouldBeInItsOrder();
        wouldBeInEachPlace();
        wouldBeAsItIsThen();
        storeThatWouldSpoil();
        howOftenItWould();
        wouldSpoilInItsOrder();
        noneInTheStore();
        allInTheStore();
        coarseByNowIsNotCounted();
        coarseThenIsAboveFifty();
        lostThenIsCounted();
        otherPlacesAreNotCounted();
        wouldSpoilAsItIsThen();
        hoursAreTwentyFour();
        digestOfANewHouse();
        digestWrapsAround();
        digestCutsTowardsZero();
        digestOfAllPlaces();
        digestAsksWhatBars();
        digestAsksWhatSpoils();
        CHECK.end();
    }

    // ---- promise 24

    private static OverrunHouse withHarms(int... harms) {
        OverrunHouse h = new OverrunHouse();
        for (int i = 0; i < harms.length; i++) {
            h.ingredient(0, 0, 0, 1, harms[i]);
            h.mix(i, 10);
        }
        return h;
    }

    private static void day(OverrunHouse h, int set, int order, int washes) {
        CHECK.same("day(" + set + ", true)", h.day(set, true), order);
        CHECK.same("day(" + set + ", false)", h.day(set, false), washes);
    }

    /** "IllegalArgumentException if mixes has one that there is not, or is below 0". */
    private static void setsOfADay() {
        for (int i = 0; i <= 5; i++) {
            int there = i;
            int all = (1 << there) - 1;
            Edges some = new Edges(CHECK, there + " mixes", () -> Houses.mixes(there));
            some.range("order", 0, all, ARGUMENT, (h, v) -> h.day(v, true));
            some.range("washes", 0, all, ARGUMENT, (h, v) -> h.day(v, false));
            for (int bit = there; bit < 32; bit++) {
                int one = 1 << bit;
                some.refuses("just " + bit, ARGUMENT, h -> h.day(one, true));
                some.refuses("all and " + bit, ARGUMENT, h -> h.day(one | all, false));
            }
        }
    }

    /** "0, both, for the empty set", however many MIXES there are. */
    private static void emptySet() {
        NEW.keeps("order", 0, h -> h.day(0, true));
        NEW.keeps("washes", 0, h -> h.day(0, false));
        STORED.keeps("order", 0, h -> h.day(0, true));
        STORED.keeps("washes", 0, h -> h.day(0, false));
    }

    /** Of one MIX: "each 1 more", and nothing that it has to be WASHED between. */
    private static void dayOfASingleMix() {
        OverrunHouse h = withHarms(15, 0, 8, 15, 1);
        for (int mix = 0; mix < 5; mix++) {
            day(h, 1 << mix, mix + 1, 0);
        }
    }

    /** The fewest washes there may be: from the fewest HARMS to the most, one in the other. */
    private static void dayWithoutAWash() {
        day(withHarms(0, 1, 3, 7, 15), 31, 12345, 0);
        day(withHarms(15, 7, 3, 1, 0), 31, 54321, 0);
        day(withHarms(3, 15, 0, 7, 1), 31, 35142, 0);
        day(withHarms(0, 15), 3, 12, 0);
        day(withHarms(15, 0), 3, 21, 0);
    }

    /** The most washes there may be: none of the MIXES has the HARMS of another. */
    private static void dayWithAsManyWashes() {
        OverrunHouse h = withHarms(3, 5, 6, 9, 10);
        day(h, 31, 12345, 4);
        day(h, 30, 2345, 3);
        day(h, 21, 135, 2);
        day(h, 24, 45, 1);
    }

    /** "of several that is told which is the smallest number". */
    private static void smallestOfTheBest() {
        day(withHarms(7, 7, 7, 7, 7), 31, 12345, 0);
        day(withHarms(0, 0, 0, 0, 0), 21, 135, 0);
        day(withHarms(3, 1, 2), 7, 213, 1);
        day(withHarms(1, 2, 3), 7, 123, 1);
        day(withHarms(1, 3, 2, 1), 15, 1423, 1);
    }

    /** "The best order has the fewest washes": ahead of the smallest number. */
    private static void fewestGoAheadOfSmallest() {
        day(withHarms(1, 0), 3, 21, 0);
        day(withHarms(15, 1, 0, 3, 7), 31, 32451, 0);
        day(withHarms(2, 1, 3, 3, 1), 31, 12534, 1);
    }

    /** "a BARREL as it is WASHED": the first one never needs a wash, whatever RESTS there are. */
    private static void startsWashed() {
        OverrunHouse h = Houses.soft(5);
        CHECK.same("rests", h.many(8), 4);
        day(h, 1, 1, 0);
        day(h, 3, 12, 0);
        OverrunHouse clean = Houses.soft(5);
        clean.wash(0);
        CHECK.same("as if it were washed", h.day(31, true), clean.day(31, true));
        CHECK.same("as many washes", h.day(31, false), clean.day(31, false));
    }

    /** "a set of MIXES": PROVED or not, with kilograms LEFT or not. */
    private static void dayOfAnyMix() {
        OverrunHouse h = Houses.ready(5);
        h.run(0, 0, 100, 50);
        h.put(1, 5, 1);
        CHECK.same("nothing left", h.ofMix(0, 1), 0);
        CHECK.same("not proved", h.ofMix(1, 4), 0);
        day(h, 1, 1, 0);
        day(h, 2, 2, 0);
        day(h, 3, 12, 0);
    }

    /** Each set of each three HARMS, and of five in turn, against all the orders there are. */
    private static void dayByAllOrders() {
        for (int i = 0; i < 16 * 16 * 16; i += 3) {
            allSets(new int[] {i & 15, i >> 4 & 15, i >> 8});
        }
        for (int i = 0; i < 300; i++) {
            int seed = i * 7919 + 13;
            allSets(new int[] {seed & 15, seed >> 3 & 15, seed >> 5 & 15, seed >> 8 & 15,
                seed >> 10 & 15});
        }
    }

    private static void allSets(int[] harms) {
        OverrunHouse h = withHarms(harms);
        for (int set = 0; set < 1 << harms.length; set++) {
            long best = best(harms, set, -1, 0, 0);
            day(h, set, (int) (best % 100000), (int) (best / 100000));
        }
    }

    /** The washes of the best order, five digits ahead of the order itself. */
    private static long best(int[] harms, int set, int former, int order, int washes) {
        if (set == 0) {
            return washes * 100000L + order;
        }
        long best = Long.MAX_VALUE;
        for (int next = 0; next < harms.length; next++) {
            if ((set & 1 << next) != 0) {
                boolean isWashed = former >= 0 && (harms[former] | harms[next]) != harms[next];
                best = Math.min(best, best(harms, set - (1 << next), next, order * 10 + next + 1,
                        washes + (isWashed ? 1 : 0)));
            }
        }
        return best;
    }

    // ---- promise 25

    /** "IndexOutOfBoundsException if there is no such BATCH". */
    private static void batchThatWouldBe() {
        ONE.range("wouldBe: batch", 0, 0, INDEX, (h, v) -> h.wouldBe(v, 1));
        STORED.range("wouldBe: batch", 0, 11, INDEX, (h, v) -> h.wouldBe(v, 48));
    }

    /** "IllegalArgumentException if hours is not 1 to 48", wherever the BATCH is. */
    private static void hoursThatWouldBe() {
        for (int i = 0; i < 8; i++) {
            int batch = i;
            PLACES.range("wouldBe " + batch, 1, 48, ARGUMENT, (h, v) -> h.wouldBe(batch, v));
        }
    }

    /** Of several exceptions the one that is named first. */
    private static void wouldBeInItsOrder() {
        PLACES.refuses("no batch, hours 0", INDEX, h -> h.wouldBe(8, 0));
        PLACES.refuses("no batch, hours 49", INDEX, h -> h.wouldBe(-1, 49));
    }

    /** "-1.0, if it would be LOST by then, or is SOLD or LOST"; on the BELT nothing changes it. */
    private static void wouldBeInEachPlace() {
        int[] hours = {1, 48};
        for (int some : hours) {
            PLACES.keeps("soft on the belt", -1.0, h -> h.wouldBe(Houses.SOFT, some));
            PLACES.keeps("sold", -1.0, h -> h.wouldBe(Houses.SOLD, some));
            PLACES.keeps("lost, hard", -1.0, h -> h.wouldBe(Houses.LOST_HARD, some));
            PLACES.keeps("lost, soft", -1.0, h -> h.wouldBe(Houses.LOST_SOFT, some));
            PLACES.keeps("hard on the belt", 22.5, h -> h.wouldBe(Houses.HARD, some));
        }
        double more = 24.0 * (1.0 - -3.0 / -11.0 - (1.0 - -3.0 / -8.0));
        PLACES.keeps("in a store", 22.5 + more, h -> h.wouldBe(Houses.GOOD, 1));
        PLACES.keeps("called", 22.5 + more, h -> h.wouldBe(Houses.CALLED, 1));
        PLACES.keeps("coarse", 51.5 + more, h -> h.wouldBe(Houses.COARSE, 1));
    }

    /** "its CRYSTAL behind them, if nothing else is done": from each TEMP, for each SET. */
    private static void wouldBeAsItIsThen() {
        int[] hours = {1, 2, 24, 47, 48};
        for (int often = 0; often <= 20; often++) {
            for (int set = -30; set <= -10; set += 10) {
                for (int some : hours) {
                    OverrunHouse h = kept(often, set);
                    double would = h.wouldBe(0, some);
                    h.pass(some);
                    double due = h.ofBatch(0, 3) == 11 ? -1.0 : h.crystal(0);
                    CHECK.same(often + " times, to " + set + ", " + some, would, due);
                }
            }
        }
    }

    private static OverrunHouse kept(int often, int set) {
        OverrunHouse h = Houses.kept(80, -12);
        if (often > 0) {
            h.door(0, often);
        }
        h.set(0, set);
        return h;
    }

    // ---- promise 26

    /** "IndexOutOfBoundsException if there is no such STORE". */
    private static void storeThatWouldSpoil() {
        ONE.range("wouldSpoil: store", 0, 0, INDEX, (h, v) -> h.wouldSpoil(v, 0));
        STORED.range("wouldSpoil: store", 0, 2, INDEX, (h, v) -> h.wouldSpoil(v, 20));
    }

    /** "IllegalArgumentException if often is not 0 to 20": here the DOOR may stay shut. */
    private static void howOftenItWould() {
        STORED.range("often", 0, 20, ARGUMENT, (h, v) -> h.wouldSpoil(0, v));
    }

    /** Of several exceptions the one that is named first. */
    private static void wouldSpoilInItsOrder() {
        STORED.refuses("no store, often -1", INDEX, h -> h.wouldSpoil(3, -1));
        STORED.refuses("no store, often 21", INDEX, h -> h.wouldSpoil(-1, 21));
    }

    /** Nothing in it yet, or no more. */
    private static void noneInTheStore() {
        PLACES.keeps("a lost one was in it", 0, h -> h.wouldSpoil(1, 20));
        OverrunHouse h = Houses.kept(10, -20);
        h.store(-20);
        CHECK.same("nothing yet", h.wouldSpoil(1, 20), 0);
        CHECK.same("one in it", h.wouldSpoil(0, 20), 1);
        h.lay(0, 1);
        CHECK.same("laid away", h.wouldSpoil(0, 20), 0);
        CHECK.same("laid into the other", h.wouldSpoil(1, 20), 1);
        h.sell(0, 1);
        CHECK.same("sold", h.wouldSpoil(1, 20), 0);
    }

    /** As many in it as there may be. */
    private static void allInTheStore() {
        OverrunHouse h = Houses.hard(12);
        for (int i = 0; i < 12; i++) {
            h.lay(i, 2);
        }
        CHECK.same("none of all", h.wouldSpoil(2, 0), 0);
        CHECK.same("all", h.wouldSpoil(2, 20), 12);
    }

    /** "that are not COARSE by now": not even if they would be LOST, too. */
    private static void coarseByNowIsNotCounted() {
        PLACES.keeps("the coarse one is lost with the two others", 2, h -> h.wouldSpoil(0, 20));
        OverrunHouse h = Houses.kept(84, -10);
        h.door(0, 4);
        h.set(0, -20);
        h.pass(1);
        CHECK.same("just 50.0", h.crystal(0), 50.0);
        CHECK.same("is not coarse by now", h.wouldSpoil(0, 20), 1);
        OverrunHouse g = Houses.kept(85, -10);
        g.door(0, 4);
        g.set(0, -20);
        g.pass(1);
        CHECK.same("50.25", g.crystal(0), 50.25);
        CHECK.same("is coarse by now", g.wouldSpoil(0, 20), 0);
    }

    /** "COARSE behind 24 HOURS": CRYSTAL of just 50.0 then is not, of the least more is. */
    private static void coarseThenIsAboveFifty() {
        OverrunHouse h = Houses.kept(84, -10);
        h.store(-12);
        h.door(0, 4);
        h.set(0, -20);
        h.pass(1);
        h.lay(0, 1);
        CHECK.same("just 50.0 then", h.wouldBe(0, 24), 50.0);
        CHECK.same("does not spoil", h.wouldSpoil(1, 0), 0);
        CHECK.same("spoils by one opening", h.wouldSpoil(1, 1), 1);
    }

    /** "LOST": by the TEMP behind the last opening, just where its MIX FREEZES, and beyond. */
    private static void lostThenIsCounted() {
        OverrunHouse h = Houses.kept(10, -12);
        CHECK.same("to -4.5", h.wouldSpoil(0, 5), 0);
        CHECK.same("to -3.0", h.wouldSpoil(0, 6), 1);
        CHECK.same("to 8.0", h.wouldSpoil(0, 20), 1);
        h.door(0, 6);
        CHECK.same("at -3.0", h.wouldSpoil(0, 0), 1);
        CHECK.same("nothing is lost by asking", h.ofBatch(0, 3), 0);
        CHECK.same("no door was opened", h.temp(0), -3.0);
    }

    /** "how many BATCHES in it": not those of the BELT, though soft ones would be LOST. */
    private static void otherPlacesAreNotCounted() {
        OverrunHouse h = Houses.hard(6);
        h.wash(0);
        h.run(0, 0, 10, 50);
        h.lay(0, 0);
        h.lay(1, 0);
        h.lay(2, 1);
        h.sell(1, 1);
        CHECK.same("one in it", h.wouldSpoil(0, 20), 1);
        CHECK.same("one in the other", h.wouldSpoil(1, 20), 1);
        CHECK.same("none in the third", h.wouldSpoil(2, 20), 0);
        h.pass(1);
        CHECK.same("one is lost", h.many(3), 1);
        CHECK.same("one in it still", h.wouldSpoil(0, 20), 1);
    }

    /** "behind 24 HOURS then": for each number of openings, as it turns out to be. */
    private static void wouldSpoilAsItIsThen() {
        for (int often = 0; often <= 20; often++) {
            for (int minutes = 10; minutes <= 90; minutes += 8) {
                OverrunHouse h = threeBatches(minutes);
                int would = h.wouldSpoil(0, often);
                if (often > 0) {
                    h.door(0, often);
                }
                h.pass(24);
                int due = 0;
                for (int i = 0; i < 3; i++) {
                    due += h.ofBatch(i, 3) == 11 || h.ofBatch(i, 4) == 1 ? 1 : 0;
                }
                CHECK.same(often + " times, " + minutes + " minutes", would, due);
            }
        }
    }

    private static OverrunHouse threeBatches(int minutes) {
        OverrunHouse h = new OverrunHouse();
        int[] sugar = {480, 320, 0};
        for (int i = 0; i < 3; i++) {
            h.ingredient(0, 0, sugar[i], 1, 0);
            h.mix(i, 100);
            h.heat(i, 80, 15);
        }
        h.pass(4);
        h.store(-14);
        for (int i = 0; i < 3; i++) {
            h.run(0, i, 12, 50);
            h.harden(i, minutes);
            h.lay(i, 0);
        }
        return h;
    }

    /** "behind 24 HOURS": not 23 (the first grows COARSE in the last of them), and not 25. */
    private static void hoursAreTwentyFour() {
        OverrunHouse by = slow(258, 70, 5, -13);
        CHECK.same("not coarse behind 23", by.wouldBe(0, 23) <= 50.0, true);
        CHECK.same("coarse behind 24", by.wouldBe(0, 24) > 50.0, true);
        CHECK.same("spoils", by.wouldSpoil(0, 0), 1);
        by.pass(23);
        CHECK.same("not coarse yet", by.ofBatch(0, 4), 0);
        by.pass(1);
        CHECK.same("coarse by the 24th", by.ofBatch(0, 4), 1);
        OverrunHouse later = slow(313, 82, 4, -21);
        CHECK.same("not coarse behind 24", later.wouldBe(0, 24) <= 50.0, true);
        CHECK.same("coarse behind 25", later.wouldBe(0, 25) > 50.0, true);
        CHECK.same("does not spoil", later.wouldSpoil(0, 0), 0);
        later.pass(1);
        CHECK.same("spoils an hour later", later.wouldSpoil(0, 0), 1);
    }

    /** One batch in a store that was opened from -10.0 so often, and wants this now. */
    private static OverrunHouse slow(int sugar, int minutes, int openings, int set) {
        OverrunHouse h = new OverrunHouse();
        h.ingredient(0, 0, sugar, 1, 0);
        h.mix(0, 100);
        h.heat(0, 80, 15);
        h.pass(4);
        h.run(0, 0, 12, 50);
        h.harden(0, minutes);
        h.store(-10);
        h.lay(0, 0);
        h.door(0, openings);
        h.set(0, set);
        return h;
    }

    // ---- promise 27

    /** What the words of the digest say, in whole numbers without a bound, wrapped at the end. */
    private static final class Wrapped {
        private BigInteger d = BigInteger.valueOf(9606);

        void add(long v) {
            d = d.multiply(BigInteger.valueOf(31)).add(BigInteger.valueOf(v));
        }

        boolean isBeyond() {
            return d.bitLength() > 64;
        }

        /** The lowest 64 bits, which is what is left of it by wrapping at each step. */
        long value() {
            return d.longValue();
        }
    }

    /** Nothing there yet: many() of 0 to 11, and the day of no MIX. */
    private static void digestOfANewHouse() {
        Wrapped due = new Wrapped();
        for (int i = 0; i < 12 + 2; i++) {
            due.add(0);
        }
        CHECK.same("new", new OverrunHouse().digest(), due.value());
        CHECK.same("new, asked again", new OverrunHouse().digest(), due.value());
    }

    /** "which wraps around as a 64-bit integer". */
    private static void digestWrapsAround() {
        OverrunHouse h = Houses.stored(12);
        Wrapped due = digestOf(h, new int[0]);
        CHECK.same("it is beyond 64 bits", due.isBeyond(), true);
        CHECK.same("full", h.digest(), due.value());
        h.door(0, 20);
        h.pass(1);
        h.sell(1, 99);
        h.call(0);
        CHECK.same("full, later", h.digest(), digestOf(h, new int[0]).value());
    }

    /** "TEMP times 8, cut to a whole number (towards 0)", below 0 and above it; CRYSTAL, too. */
    private static void digestCutsTowardsZero() {
        OverrunHouse h = Houses.kept(11, -10);
        h.store(-29);
        h.store(-10);
        h.door(0, 4);
        h.pass(3);
        h.door(1, 19);
        h.door(2, 20);
        h.pass(1);
        CHECK.same("temp 0", h.temp(0), -8.1015625);
        CHECK.same("temp 1", h.temp(1), -7.625);
        CHECK.same("temp 2", h.temp(2), 3.5);
        int[] times8 = {-64, -61, 28};
        CHECK.same("digest", h.digest(), digestOf(h, times8).value());
        h.set(2, -11);
        h.pass(1);
        CHECK.same("temp 0 then", h.temp(0), -8.576171875);
        CHECK.same("temp 1 then", h.temp(1), -12.96875);
        CHECK.same("temp 2 then", h.temp(2), -0.125);
        CHECK.same("digest then", h.digest(), digestOf(h, new int[] {-68, -103, -1}).value());
        h.door(2, 2);
        h.pass(1);
        CHECK.same("temp 2 at last", h.temp(2), -0.59375);
        CHECK.same("digest at last", h.digest(), digestOf(h, new int[] {-71, -135, -4}).value());
    }

    /** Each v in its order, of a house with a BATCH in each place there is. */
    private static void digestOfAllPlaces() {
        OverrunHouse h = Houses.places();
        CHECK.same("digest", h.digest(), digestOf(h, new int[] {-64, -42}).value());
        OverrunHouse g = Houses.one();
        CHECK.same("one of each", g.digest(), digestOf(g, new int[] {-160}).value());
    }

    /** "bars() of it with the BARREL 0, 20 kilograms and 80": each at its edge. */
    private static void digestAsksWhatBars() {
        OverrunHouse h = new OverrunHouse();
        h.ingredient(100, 80, 160, 1, 1);
        h.ingredient(0, 0, 0, 1, 3);
        h.mix(0, 25);
        h.mix(0, 24);
        h.mix(1, 25);
        for (int i = 0; i < 3; i++) {
            h.heat(i, 80, 15);
        }
        h.pass(4);
        h.run(0, 0, 5, 20);
        h.run(0, 1, 5, 20);
        h.run(1, 2, 5, 20);
        CHECK.same("cream, 20 are left", h.bars(0, 0, 20, 80), 0);
        CHECK.same("19 are left", h.bars(0, 1, 20, 80), 4);
        CHECK.same("more harms", h.bars(0, 2, 20, 80), 0);
        CHECK.same("in the other barrel", h.bars(1, 0, 20, 80), 5);
        CHECK.same("digest", h.digest(), digestOf(h, new int[0]).value());
        h.run(0, 2, 5, 20);
        CHECK.same("rests", h.bars(0, 0, 20, 80), 5);
        CHECK.same("digest, with rests", h.digest(), digestOf(h, new int[0]).value());
    }

    /** "wouldSpoil() of 0": no DOOR is opened, where one opening would spoil a BATCH. */
    private static void digestAsksWhatSpoils() {
        OverrunHouse h = Houses.kept(10, -12);
        h.door(0, 5);
        CHECK.same("not by 0", h.wouldSpoil(0, 0), 0);
        CHECK.same("by 1", h.wouldSpoil(0, 1), 1);
        CHECK.same("digest", h.digest(), digestOf(h, new int[] {-36}).value());
        h.door(0, 1);
        CHECK.same("by 0", h.wouldSpoil(0, 0), 1);
        CHECK.same("digest then", h.digest(), digestOf(h, new int[] {-24}).value());
    }

    /** TEMP times 8 as they are given, or, if none is, by asking. */
    private static Wrapped digestOf(OverrunHouse h, int[] times8) {
        Wrapped due = new Wrapped();
        for (int what = 0; what <= 11; what++) {
            due.add(h.many(what));
        }
        for (int mix = 0; mix < h.many(1); mix++) {
            for (int what = 0; what <= 8; what++) {
                due.add(h.ofMix(mix, what));
            }
            due.add(h.bars(0, mix, 20, 80));
        }
        for (int batch = 0; batch < h.many(2); batch++) {
            for (int what = 0; what <= 5; what++) {
                due.add(h.ofBatch(batch, what));
            }
            due.add((long) Math.floor(h.crystal(batch) * 8));
        }
        for (int store = 0; store < h.many(5); store++) {
            due.add(times8.length > 0 ? times8[store] : (long) (h.temp(store) * 8));
            due.add(h.wouldSpoil(store, 0));
        }
        int all = (1 << h.many(1)) - 1;
        due.add(h.day(all, true));
        due.add(h.day(all, false));
        return due;
    }
}
