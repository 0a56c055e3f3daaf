/** Promises 6 to 8 and 19: each sentence that names an edge, by a test of its own. */
public final class BarrelEdgesTest {
    private static final String INDEX = Edges.INDEX;
    private static final String ARGUMENT = Edges.ARGUMENT;
    private static final String STATE = Edges.STATE;
    private static final Check CHECK = new Check();
    private static final Edges ONE = new Edges(CHECK, "one of each", Houses::one);
    private static final Edges READY = new Edges(CHECK, "5 mixes", () -> Houses.ready(5));
    private static final Edges LARGE = new Edges(CHECK, "500 kilograms", () -> large(0));
    private static final Edges RAW = new Edges(CHECK, "not proved", () -> Houses.mixes(5));
    private static final Edges FULL = new Edges(CHECK, "12 batches", () -> Houses.soft(12));
    private static final Edges PLACES = new Edges(CHECK, "in all places", Houses::places);

    public static void main(String[] args) {
        barrelOfARun();
        mixOfARun();
        kilosOfARun();
        airOfARun();
        runInItsOrder();
        barrelOfBars();
        mixOfBars();
        kilosOfBars();
        airOfBars();
        barsInTheirOrder();
        whatBarsGoesByItsOrder();
        notProved();
        ages();
        left();
        restsOfEachHarm();
        restsAreSetAnew();
        airOfCream();
        twelveBatches();
        twoKilogramsAreLost();
        litresRoundDown();
        batchAtFirst();
        barrelOfAWash();
        washedHasNone();
        washesWithoutRests();
        batchToHarden();
        minutes();
        crystalByMinutes();
        notToHarden();
        hardenInItsOrder();
        CHECK.end();
    }

    /** A mix of 500 kilograms, with these HARMS, proved, of AGE 4. */
    private static OverrunHouse large(int harms) {
        OverrunHouse h = new OverrunHouse();
        h.ingredient(99, 80, 160, 7, harms);
        h.mix(0, 500);
        h.heat(0, 80, 15);
        h.pass(4);
        return h;
    }

    // ---- promises 6 and 19: what is refused

    /** "IndexOutOfBoundsException if barrel is not 0 or 1". */
    private static void barrelOfARun() {
        READY.range("run: barrel", 0, 1, INDEX, (h, v) -> h.run(v, 0, 5, 20));
    }

    /** "or there is no such MIX". */
    private static void mixOfARun() {
        ONE.range("run: mix", 0, 0, INDEX, (h, v) -> h.run(0, v, 5, 20));
        READY.range("run: mix", 0, 4, INDEX, (h, v) -> h.run(0, v, 5, 20));
    }

    /** "IllegalArgumentException if kilos is not 5 to 500". */
    private static void kilosOfARun() {
        LARGE.range("run: kilos", 5, 500, ARGUMENT, (h, v) -> h.run(0, 0, v, 20));
        LARGE.answers("5 kilograms", 0, h -> h.run(0, 0, 5, 20));
        LARGE.answers("500 kilograms", 0, h -> h.run(0, 0, 500, 20));
    }

    /** "or air not 20 to 140". */
    private static void airOfARun() {
        LARGE.range("run: air", 20, 140, ARGUMENT, (h, v) -> h.run(0, 0, 5, v));
        LARGE.answers("air 20", 0, h -> h.run(0, 0, 5, 20));
        LARGE.answers("air 140", 0, h -> h.run(0, 0, 5, 140));
    }

    /** The exception named first goes ahead, and each of them ahead of what bars the RUN. */
    private static void runInItsOrder() {
        RAW.refuses("barrel 2, kilos 4", INDEX, h -> h.run(2, 0, 4, 20));
        RAW.refuses("barrel -1, kilos 501", INDEX, h -> h.run(-1, 0, 501, 20));
        RAW.refuses("barrel 2, air 19", INDEX, h -> h.run(2, 0, 5, 19));
        RAW.refuses("barrel 2, air 141", INDEX, h -> h.run(2, 0, 5, 141));
        RAW.refuses("barrel 2, no mix", INDEX, h -> h.run(2, 5, 5, 20));
        RAW.refuses("no mix, kilos 4", INDEX, h -> h.run(0, 5, 4, 20));
        RAW.refuses("no mix, kilos 501", INDEX, h -> h.run(0, -1, 501, 20));
        RAW.refuses("no mix, air 19", INDEX, h -> h.run(0, 5, 5, 19));
        RAW.refuses("no mix, air 141", INDEX, h -> h.run(0, -1, 5, 141));
        RAW.refuses("barred, kilos 4", ARGUMENT, h -> h.run(0, 0, 4, 20));
        RAW.refuses("barred, kilos 501", ARGUMENT, h -> h.run(0, 0, 501, 20));
        RAW.refuses("barred, air 19", ARGUMENT, h -> h.run(0, 0, 5, 19));
        RAW.refuses("barred, air 141", ARGUMENT, h -> h.run(0, 0, 5, 141));
        FULL.refuses("full, barrel 2", INDEX, h -> h.run(2, 0, 5, 20));
        FULL.refuses("full, no mix", INDEX, h -> h.run(0, 5, 5, 20));
        FULL.refuses("full, kilos 4", ARGUMENT, h -> h.run(0, 0, 4, 20));
        FULL.refuses("full, air 141", ARGUMENT, h -> h.run(0, 0, 5, 141));
    }

    /** "IndexOutOfBoundsException if barrel is not 0 or 1". */
    private static void barrelOfBars() {
        READY.range("bars: barrel", 0, 1, INDEX, (h, v) -> h.bars(v, 0, 5, 20));
    }

    /** "or there is no such MIX". */
    private static void mixOfBars() {
        ONE.range("bars: mix", 0, 0, INDEX, (h, v) -> h.bars(0, v, 5, 20));
        READY.range("bars: mix", 0, 4, INDEX, (h, v) -> h.bars(0, v, 5, 20));
    }

    /** "IllegalArgumentException if kilos is not 5 to 500". */
    private static void kilosOfBars() {
        LARGE.range("bars: kilos", 5, 500, ARGUMENT, (h, v) -> h.bars(0, 0, v, 20));
        LARGE.keeps("5 kilograms", 0, h -> h.bars(0, 0, 5, 20));
        LARGE.keeps("500 kilograms", 0, h -> h.bars(0, 0, 500, 20));
    }

    /** "or air not 20 to 140". */
    private static void airOfBars() {
        LARGE.range("bars: air", 20, 140, ARGUMENT, (h, v) -> h.bars(0, 0, 5, v));
        LARGE.keeps("air 20", 0, h -> h.bars(0, 0, 5, 20));
        LARGE.keeps("air 140", 0, h -> h.bars(0, 0, 5, 140));
    }

    /** The exception named first goes ahead, and each of them ahead of what bars. */
    private static void barsInTheirOrder() {
        RAW.refuses("barrel 2, kilos 4", INDEX, h -> h.bars(2, 0, 4, 20));
        RAW.refuses("barrel -1, air 141", INDEX, h -> h.bars(-1, 0, 5, 141));
        RAW.refuses("no mix, kilos 501", INDEX, h -> h.bars(0, 5, 501, 20));
        RAW.refuses("no mix, air 19", INDEX, h -> h.bars(0, -1, 5, 19));
        RAW.refuses("barred, kilos 4", ARGUMENT, h -> h.bars(0, 0, 4, 20));
        RAW.refuses("barred, kilos 501", ARGUMENT, h -> h.bars(0, 0, 501, 20));
        RAW.refuses("barred, air 19", ARGUMENT, h -> h.bars(0, 0, 5, 19));
        RAW.refuses("barred, air 141", ARGUMENT, h -> h.bars(0, 0, 5, 141));
    }

    // ---- promises 6 and 19: what bars

    /**
     * "the first of 1 not PROVED; 2 AGE below 4; 3 AGE above 72; 4 fewer kilograms left; 5 RESTS that
     * are not HARMS of the MIX; 6 AIR above 100, if it is CREAM; 7 there are 12 BATCHES; 0 nothing":
     * all of them that can stand together, each by the least that makes it stand.
     */
    private static void whatBarsGoesByItsOrder() {
        for (int i = 0; i < 1 << 7; i++) {
            int set = i;
            if (!stands(set, 2) || !stands(set, 3)) {
                Edges barred = new Edges(CHECK, "bars " + set, () -> barred(set));
                int first = set == 0 ? 0 : Integer.numberOfTrailingZeros(set) + 1;
                int air = stands(set, 6) ? 101 : 100;
                barred.keeps("bars", first, h -> h.bars(0, 0, 10, air));
                if (first > 0) {
                    barred.keeps("run", -10 - first, h -> h.run(0, 0, 10, air));
                } else {
                    barred.answers("run", 11, h -> h.run(0, 0, 10, air));
                }
            }
        }
    }

    private static boolean stands(int set, int bar) {
        return (set & 1 << bar - 1) != 0;
    }

    /** Just these bars stand for 10 kilograms of the mix 0, which is CREAM, and the barrel 0. */
    private static OverrunHouse barred(int set) {
        OverrunHouse h = new OverrunHouse();
        h.ingredient(100, 80, 160, 1, 7);
        h.ingredient(0, 80, 160, 1, stands(set, 5) ? 9 : 3);
        h.mix(0, stands(set, 4) ? 9 : 10);
        h.mix(1, 500);
        h.heat(1, 80, 15);
        h.pass(4);
        for (int i = 0; i < (stands(set, 7) ? 12 : 11); i++) {
            h.run(0, 1, 5, 20);
        }
        h.heat(0, 80, stands(set, 1) ? 14 : 15);
        int age = stands(set, 2) ? 3 : stands(set, 3) ? 73 : set % 2 == 0 ? 4 : 72;
        h.pass(age > 36 ? 36 : age);
        if (age > 36) {
            h.pass(age - 36);
        }
        return h;
    }

    /** "1 not PROVED": of that mix, not of another one. */
    private static void notProved() {
        OverrunHouse h = Houses.mixes(2);
        h.heat(0, 80, 15);
        h.heat(1, 79, 59);
        h.pass(4);
        CHECK.same("proved", h.bars(0, 0, 5, 20), 0);
        CHECK.same("not proved", h.bars(0, 1, 5, 20), 1);
        CHECK.same("run", h.run(0, 1, 5, 20), -11);
    }

    /** "It can be run if it is PROVED, and its AGE is 4 to 72". */
    private static void ages() {
        int[] age = {0, 3, 4, 5, 71, 72, 73, 120};
        int[] due = {2, 2, 0, 0, 0, 0, 3, 3};
        OverrunHouse h = Houses.mixes(1);
        h.pass(48);
        h.heat(0, 80, 15);
        int now = 0;
        for (int i = 0; i < age.length; i++) {
            if (age[i] > now + 48) {
                h.pass(48);
                now += 48;
            }
            if (age[i] > now) {
                h.pass(age[i] - now);
                now = age[i];
            }
            CHECK.same("bars at " + age[i], h.bars(0, 0, 5, 20), due[i]);
            CHECK.same("run at " + age[i], h.run(0, 0, 5, 20) < 0, due[i] > 0);
        }
        h.heat(0, 20, 1);
        CHECK.same("heated anew", h.bars(0, 0, 5, 20), 2);
        h.pass(4);
        CHECK.same("old enough anew", h.bars(0, 0, 5, 20), 0);
    }

    /** "4 fewer kilograms left": as many as are LEFT can be run, LEFT is what counts. */
    private static void left() {
        OverrunHouse h = large(0);
        h.run(0, 0, 100, 20);
        CHECK.same("401 of 400", h.bars(0, 0, 401, 20), 4);
        CHECK.same("run 401 of 400", h.run(0, 0, 401, 20), -14);
        CHECK.same("400 of 400", h.bars(0, 0, 400, 20), 0);
        CHECK.same("run 395 of 400", h.run(0, 0, 395, 20), 1);
        CHECK.same("6 of 5", h.run(0, 0, 6, 20), -14);
        CHECK.same("5 of 5", h.run(0, 0, 5, 20), 2);
        CHECK.same("nothing is left", h.ofMix(0, 1), 0);
        CHECK.same("5 of 0", h.bars(0, 0, 5, 20), 4);
        CHECK.same("run 5 of 0", h.run(0, 0, 5, 20), -14);
    }

    /** "5 RESTS that are not HARMS of the MIX": each pair of sets, in that barrel alone. */
    private static void restsOfEachHarm() {
        for (int rests = 0; rests <= 15; rests++) {
            for (int harms = 0; harms <= 15; harms++) {
                OverrunHouse h = new OverrunHouse();
                h.ingredient(0, 0, 0, 1, rests);
                h.ingredient(0, 0, 0, 1, harms);
                h.mix(0, 100);
                h.mix(1, 100);
                h.heat(0, 80, 15);
                h.heat(1, 80, 15);
                h.pass(4);
                h.run(1, 0, 5, 20);
                boolean isBarred = (rests & ~harms) != 0;
                String call = harms + " behind " + rests;
                CHECK.same("bars: " + call, h.bars(1, 1, 5, 20), isBarred ? 5 : 0);
                CHECK.same("run: " + call, h.run(1, 1, 5, 20), isBarred ? -15 : 1);
                CHECK.same("rests: " + call, h.many(9), isBarred ? rests : harms);
                CHECK.same("the other barrel: " + call, h.bars(0, 1, 5, 20), 0);
                CHECK.same("its rests: " + call, h.many(8), 0);
            }
        }
    }

    /** "RESTS, a set of HARMS (0 at first)"; "RESTS are the HARMS of the MIX" behind a RUN. */
    private static void restsAreSetAnew() {
        OverrunHouse h = large(15);
        CHECK.same("barrel 0 at first", h.many(8), 0);
        CHECK.same("barrel 1 at first", h.many(9), 0);
        h.run(1, 0, 5, 20);
        CHECK.same("barrel 1", h.many(9), 15);
        CHECK.same("barrel 0", h.many(8), 0);
        h.run(1, 0, 5, 20);
        CHECK.same("barrel 1, again", h.many(9), 15);
        OverrunHouse none = large(0);
        none.run(0, 0, 5, 20);
        CHECK.same("no harms", none.many(8), 0);
    }

    /** "6 AIR above 100, if it is CREAM": 100 and 101, with CREAM and without. */
    private static void airOfCream() {
        OverrunHouse h = new OverrunHouse();
        h.ingredient(100, 80, 0, 1, 0);
        h.ingredient(100, 79, 0, 1, 0);
        for (int mix = 0; mix < 2; mix++) {
            h.mix(mix, 100);
            h.heat(mix, 80, 15);
        }
        h.pass(4);
        CHECK.same("cream, 100", h.bars(0, 0, 5, 100), 0);
        CHECK.same("cream, 101", h.bars(0, 0, 5, 101), 6);
        CHECK.same("cream, 140", h.bars(0, 0, 5, 140), 6);
        CHECK.same("no cream, 101", h.bars(0, 1, 5, 101), 0);
        CHECK.same("no cream, 140", h.bars(0, 1, 5, 140), 0);
        CHECK.same("run: cream, 101", h.run(0, 0, 5, 101), -16);
        CHECK.same("run: cream, 100", h.run(0, 0, 5, 100), 0);
        CHECK.same("run: no cream, 140", h.run(0, 1, 5, 140), 1);
    }

    /** "7 there are 12 BATCHES": wherever they are, for ever. */
    private static void twelveBatches() {
        OverrunHouse h = Houses.stored(11);
        h.wash(0);
        CHECK.same("11: bars", h.bars(0, 0, 10, 50), 0);
        CHECK.same("11: run", h.run(0, 0, 10, 50), 11);
        CHECK.same("12: bars", h.bars(0, 0, 10, 50), 7);
        CHECK.same("12: run", h.run(0, 0, 10, 50), -17);
        h.sell(0, 1);
        CHECK.same("one is sold", h.run(0, 0, 10, 50), -17);
        h.pass(1);
        CHECK.same("one is lost", h.run(0, 0, 10, 50), -17);
        CHECK.same("batches", h.many(2), 12);
        CHECK.same("left", h.ofMix(0, 1), 100 - 4 * 10);
        FULL.keeps("run", -17, house -> house.run(1, 0, 10, 50));
    }

    /** "2 kilograms are lost; of the others there is a BATCH of LITRES", of 5 up to 500. */
    private static void twoKilogramsAreLost() {
        int[][] rows = {{5, 100, 6}, {500, 140, 1195}, {500, 20, 597}, {5, 20, 3}, {5, 140, 7},
            {52, 100, 100}, {6, 25, 5}};
        for (int[] row : rows) {
            OverrunHouse h = large(0);
            h.run(0, 0, row[0], row[1]);
            CHECK.same(row[0] + " with " + row[1], h.ofBatch(0, 1), row[2]);
            CHECK.same("left of 500 less " + row[0], h.ofMix(0, 1), 500 - row[0]);
        }
    }

    /** "Whole numbers are divided rounding down". */
    private static void litresRoundDown() {
        int[][] rows = {{5, 33, 3}, {5, 34, 4}, {5, 66, 4}, {5, 67, 5}, {101, 99, 197},
            {102, 99, 199}, {499, 139, 1187}};
        for (int[] row : rows) {
            OverrunHouse h = large(0);
            h.run(1, 0, row[0], row[1]);
            CHECK.same(row[0] + " with " + row[1], h.ofBatch(0, 1), row[2]);
        }
    }

    /** "BATCHES are numbered from 0, at first on the BELT, with a CRYSTAL of 20.0, a HARD of 0". */
    private static void batchAtFirst() {
        OverrunHouse h = large(0);
        for (int i = 0; i < 12; i++) {
            CHECK.same("its number", h.run(i % 2, 0, 5, 20), i);
            CHECK.same("batches", h.many(2), i + 1);
            CHECK.same("its mix", h.ofBatch(i, 0), 0);
            CHECK.same("hard", h.ofBatch(i, 2), 0);
            CHECK.same("where", h.ofBatch(i, 3), -1);
            CHECK.same("coarse", h.ofBatch(i, 4), 0);
            CHECK.same("called", h.ofBatch(i, 5), 0);
            CHECK.same("crystal", h.crystal(i), 20.0);
            CHECK.same("batches of the mix", h.ofMix(0, 8), i + 1);
        }
    }

    // ---- promise 7

    /** "IndexOutOfBoundsException if barrel is not 0 or 1". */
    private static void barrelOfAWash() {
        READY.range("wash", 0, 1, INDEX, (h, v) -> h.wash(v));
        FULL.range("wash", 0, 1, INDEX, (h, v) -> h.wash(v));
    }

    /** "WASHED, it has none"; what is returned are the RESTS before, of that barrel. */
    private static void washedHasNone() {
        OverrunHouse h = large(15);
        h.run(0, 0, 5, 20);
        CHECK.same("the other one", h.wash(1), 0);
        CHECK.same("rests stay", h.many(8), 15);
        CHECK.same("all of them", h.wash(0), 15);
        CHECK.same("none", h.many(8), 0);
        CHECK.same("none again", h.wash(0), 0);
        h.run(1, 0, 5, 20);
        CHECK.same("barrel 0 stays", h.many(8), 0);
        CHECK.same("barrel 1", h.wash(1), 15);
    }

    /** "WASHES ever (with RESTS or without)"; a wash that is refused is none. */
    private static void washesWithoutRests() {
        OverrunHouse h = large(1);
        CHECK.same("none yet", h.many(10), 0);
        h.wash(0);
        h.wash(1);
        CHECK.same("without rests", h.many(10), 2);
        CHECK.noIndex("wash(2)", h, () -> h.wash(2));
        CHECK.same("refused", h.many(10), 2);
        h.run(0, 0, 5, 20);
        h.wash(0);
        CHECK.same("with rests", h.many(10), 3);
    }

    // ---- promise 8

    /** "IndexOutOfBoundsException if there is no such BATCH". */
    private static void batchToHarden() {
        Edges single = new Edges(CHECK, "one batch", () -> Houses.soft(1));
        single.range("harden", 0, 0, INDEX, (h, v) -> h.harden(v, 10));
        FULL.range("harden", 0, 11, INDEX, (h, v) -> h.harden(v, 10));
    }

    /** "IllegalArgumentException if minutes is not 10 to 90". */
    private static void minutes() {
        FULL.range("minutes", 10, 90, ARGUMENT, (h, v) -> h.harden(0, v));
    }

    /** "CRYSTAL is more by minutes * 0.25; it is HARD then", on the BELT still. */
    private static void crystalByMinutes() {
        for (int minutes = 10; minutes <= 90; minutes++) {
            OverrunHouse h = Houses.soft(2);
            CHECK.same(minutes + " minutes", h.harden(0, minutes), 20.0 + minutes / 4.0);
            CHECK.same("crystal", h.crystal(0), 20.0 + minutes / 4.0);
            CHECK.same("hard", h.ofBatch(0, 2), 1);
            CHECK.same("where", h.ofBatch(0, 3), -1);
            CHECK.same("the other one: crystal", h.crystal(1), 20.0);
            CHECK.same("the other one: hard", h.ofBatch(1, 2), 0);
        }
    }

    /** "IllegalStateException if it is not on the BELT, or HARD": in each place there is. */
    private static void notToHarden() {
        PLACES.answers("soft on the belt", 22.5, h -> h.harden(Houses.SOFT, 10));
        PLACES.refuses("hard on the belt", STATE, h -> h.harden(Houses.HARD, 10));
        PLACES.refuses("in a store", STATE, h -> h.harden(Houses.GOOD, 10));
        PLACES.refuses("coarse in a store", STATE, h -> h.harden(Houses.COARSE, 10));
        PLACES.refuses("called in a store", STATE, h -> h.harden(Houses.CALLED, 10));
        PLACES.refuses("sold", STATE, h -> h.harden(Houses.SOLD, 10));
        PLACES.refuses("lost, hard", STATE, h -> h.harden(Houses.LOST_HARD, 10));
        PLACES.refuses("lost, soft", STATE, h -> h.harden(Houses.LOST_SOFT, 10));
    }

    /** Of several exceptions the one that is named first. */
    private static void hardenInItsOrder() {
        PLACES.refuses("no batch, minutes 9", INDEX, h -> h.harden(8, 9));
        PLACES.refuses("no batch, minutes 91", INDEX, h -> h.harden(-1, 91));
        PLACES.refuses("hard, minutes 9", ARGUMENT, h -> h.harden(Houses.HARD, 9));
        PLACES.refuses("hard, minutes 91", ARGUMENT, h -> h.harden(Houses.HARD, 91));
        PLACES.refuses("stored, minutes 9", ARGUMENT, h -> h.harden(Houses.GOOD, 9));
        PLACES.refuses("sold, minutes 91", ARGUMENT, h -> h.harden(Houses.SOLD, 91));
        PLACES.refuses("lost, minutes 9", ARGUMENT, h -> h.harden(Houses.LOST_SOFT, 9));
    }
}
