/** Promises 20 to 23, and that what is asked changes nothing: each edge by a test of its own. */
public final class AskEdgesTest {
    private static final String INDEX = Edges.INDEX;
    private static final String ARGUMENT = Edges.ARGUMENT;
    private static final Check CHECK = new Check();
    private static final Edges ONE = new Edges(CHECK, "one of each", Houses::one);
    private static final Edges STORED = new Edges(CHECK, "12 stored", () -> Houses.stored(12));
    private static final Edges PLACES = new Edges(CHECK, "in all places", Houses::places);

    public static void main(String[] args) {
        batchAsked();
        whatOfABatch();
        whereItIs();
        hardOrNot();
        coarseOrNot();
        calledOrNot();
        mixAndLitresStay();
        numberOfCrystal();
        crystalOfEach();
        numberOfTemp();
        tempOfEach();
        whatOfAll();
        manyAtItsEnds();
        manyOfEachPlace();
        askingChangesNothing();
        callsThatGoOn();
        CHECK.end();
    }

    // ---- promise 20

    /** "IndexOutOfBoundsException if there is no such BATCH". */
    private static void batchAsked() {
        ONE.range("ofBatch: batch", 0, 0, INDEX, (h, v) -> h.ofBatch(v, 0));
        STORED.range("ofBatch: batch", 0, 11, INDEX, (h, v) -> h.ofBatch(v, 5));
    }

    /** "IllegalArgumentException if what is not 0 to 5"; the index goes first. */
    private static void whatOfABatch() {
        ONE.range("ofBatch: what", 0, 5, ARGUMENT, (h, v) -> h.ofBatch(0, v));
        ONE.refuses("no batch, what -1", INDEX, h -> h.ofBatch(1, -1));
        ONE.refuses("no batch, what 6", INDEX, h -> h.ofBatch(-1, 6));
    }

    /** "NONE on the BELT, the STORE, 10 if it is SOLD, 11 if it is LOST". */
    private static void whereItIs() {
        PLACES.keeps("soft", -1, h -> h.ofBatch(Houses.SOFT, 3));
        PLACES.keeps("hard", -1, h -> h.ofBatch(Houses.HARD, 3));
        PLACES.keeps("in the first store", 0, h -> h.ofBatch(Houses.GOOD, 3));
        PLACES.keeps("sold", 10, h -> h.ofBatch(Houses.SOLD, 3));
        PLACES.keeps("lost, hard", 11, h -> h.ofBatch(Houses.LOST_HARD, 3));
        PLACES.keeps("lost, soft", 11, h -> h.ofBatch(Houses.LOST_SOFT, 3));
        STORED.keeps("in the second store", 1, h -> h.ofBatch(1, 3));
        STORED.keeps("in the third store", 2, h -> h.ofBatch(11, 3));
    }

    /** "1 if it is HARD, otherwise 0", wherever it is. */
    private static void hardOrNot() {
        int[] due = {1, 1, 0, 1, 1, 1, 1, 0};
        for (int i = 0; i < due.length; i++) {
            int batch = i;
            PLACES.keeps("hard " + batch, due[batch], h -> h.ofBatch(batch, 2));
        }
    }

    /** "A BATCH is COARSE, if CRYSTAL is above 50.0", wherever it is: a LOST one, too. */
    private static void coarseOrNot() {
        int[] due = {1, 0, 0, 0, 0, 0, 0, 0};
        for (int i = 0; i < due.length; i++) {
            int batch = i;
            PLACES.keeps("coarse " + batch, due[batch], h -> h.ofBatch(batch, 4));
        }
        OverrunHouse h = Houses.kept(90, -30);
        h.door(0, 20);
        h.pass(1);
        CHECK.same("lost", h.ofBatch(0, 3), 11);
        CHECK.same("crystal", h.crystal(0), 42.5 + 24.0 * (1.0 - -3.0 / -7.5));
        CHECK.same("coarse, lost", h.ofBatch(0, 4), 1);
    }

    /** "all BATCHES of MIXES into which it was put": SOLD and LOST ones, and those on the BELT. */
    private static void calledOrNot() {
        int[] due = {0, 0, 0, 0, 1, 0, 0, 0};
        OverrunHouse all = Houses.places();
        all.call(0);
        for (int i = 0; i < due.length; i++) {
            int batch = i;
            PLACES.keeps("called " + batch, due[batch], h -> h.ofBatch(batch, 5));
            CHECK.same("all called " + batch, all.ofBatch(batch, 5), 1);
        }
    }

    /** "0 its MIX, 1 LITRES", wherever it is. */
    private static void mixAndLitresStay() {
        int[] mixes = {0, 0, 0, 0, 1, 0, 0, 0};
        for (int i = 0; i < mixes.length; i++) {
            int batch = i;
            PLACES.keeps("mix " + batch, mixes[batch], h -> h.ofBatch(batch, 0));
            PLACES.keeps("litres " + batch, 15, h -> h.ofBatch(batch, 1));
        }
        STORED.keeps("the last mix", 4, h -> h.ofBatch(9, 0));
    }

    // ---- promises 21 and 22

    /** "IndexOutOfBoundsException if there is no such BATCH". */
    private static void numberOfCrystal() {
        ONE.range("crystal", 0, 0, INDEX, (h, v) -> h.crystal(v));
        STORED.range("crystal", 0, 11, INDEX, (h, v) -> h.crystal(v));
    }

    /** "Returns its CRYSTAL", wherever it is. */
    private static void crystalOfEach() {
        double lost = 22.5 + 24.0 * (1.0 - -3.0 / -5.25);
        double[] due = {51.5, lost, 20.0, 22.5, 22.5, 22.5, 22.5, 20.0};
        for (int i = 0; i < due.length; i++) {
            int batch = i;
            PLACES.keeps("crystal " + batch, due[batch], h -> h.crystal(batch));
        }
    }

    /** "IndexOutOfBoundsException if there is no such STORE". */
    private static void numberOfTemp() {
        ONE.range("temp", 0, 0, INDEX, (h, v) -> h.temp(v));
        STORED.range("temp", 0, 2, INDEX, (h, v) -> h.temp(v));
    }

    /** "Returns its TEMP". */
    private static void tempOfEach() {
        PLACES.keeps("temp 0", -8.0, h -> h.temp(0));
        PLACES.keeps("temp 1", -5.25, h -> h.temp(1));
        STORED.keeps("temp 2", -22.0, h -> h.temp(2));
    }

    // ---- promise 23

    /** "IllegalArgumentException if what is not 0 to 11", also where there is nothing yet. */
    private static void whatOfAll() {
        STORED.range("many", 0, 11, ARGUMENT, (h, v) -> h.many(v));
        Edges none = new Edges(CHECK, "new", OverrunHouse::new);
        none.range("many", 0, 11, ARGUMENT, (h, v) -> h.many(v));
    }

    /** As many of each as there may be: 6, 5, 12, all sold or lost, 3 stores, all called. */
    private static void manyAtItsEnds() {
        OverrunHouse h = Houses.stored(12);
        int[] full = {6, 5, 12, 0, 0, 3, 4, 0, 1, 0, 12, 0};
        for (int what = 0; what <= 11; what++) {
            CHECK.same("full: many(" + what + ")", h.many(what), full[what]);
        }
        for (int i = 0; i < 12; i++) {
            h.sell(i, 1);
        }
        for (int i = 0; i < 6; i++) {
            h.call(i);
        }
        int[] sold = {6, 5, 12, 0, 12, 3, 4, 144, 1, 0, 12, 63};
        for (int what = 0; what <= 11; what++) {
            CHECK.same("sold: many(" + what + ")", h.many(what), sold[what]);
        }
        OverrunHouse lost = Houses.soft(12);
        lost.pass(1);
        CHECK.same("all are lost", lost.many(3), 12);
        CHECK.same("none is sold", lost.many(4), 0);
    }

    /** "3 those that are LOST, 4 those that are SOLD": not those in a STORE or on the BELT. */
    private static void manyOfEachPlace() {
        PLACES.keeps("batches", 8, h -> h.many(2));
        PLACES.keeps("lost", 2, h -> h.many(3));
        PLACES.keeps("sold", 1, h -> h.many(4));
        PLACES.keeps("gain", 30, h -> h.many(7));
        PLACES.keeps("called", 2, h -> h.many(11));
    }

    // ---- all that is asked

    /** "what would be (nothing is changed)", nor by what one asks, whatever is asked. */
    private static void askingChangesNothing() {
        String due = LastLook.of(Houses.places());
        OverrunHouse h = Houses.places();
        for (int batch = 0; batch < 8; batch++) {
            h.crystal(batch);
            h.wouldBe(batch, 1);
            h.wouldBe(batch, 48);
            for (int what = 0; what <= 5; what++) {
                h.ofBatch(batch, what);
            }
        }
        for (int store = 0; store < 2; store++) {
            h.temp(store);
            h.wouldSpoil(store, 0);
            h.wouldSpoil(store, 20);
        }
        for (int mix = 0; mix < 2; mix++) {
            h.ice(mix, -40);
            h.bars(0, mix, 5, 20);
            h.bars(1, mix, 500, 140);
        }
        for (int set = 0; set < 4; set++) {
            h.day(set, true);
            h.day(set, false);
        }
        h.digest();
        CHECK.same("behind all that was asked", LastLook.of(h), due);
    }

    /** "An object is used for at most 512 calls": to the last one nothing runs over. */
    private static void callsThatGoOn() {
        OverrunHouse h = new OverrunHouse();
        h.ingredient(0, 0, 0, 1, 0);
        h.mix(0, 1);
        h.store(-30);
        for (int i = 0; i < 506; i++) {
            CHECK.same("nothing is lost", h.pass(48), 0);
        }
        CHECK.same("hours ever", h.many(6), 506 * 48);
        CHECK.same("age", h.ofMix(0, 5), 506 * 48);
        CHECK.same("temp", h.temp(0), -30.0);
        OverrunHouse washed = new OverrunHouse();
        for (int i = 0; i < 511; i++) {
            washed.wash(i % 2);
        }
        CHECK.same("washes ever", washed.many(10), 511);
    }
}
