/** Promises 6 to 8 and 19: runs, what bars them, washes, hardening. */
public final class BarrelsTest {
    private static final Check CHECK = new Check();

    public static void main(String[] args) {
        wrongRuns();
        runs();
        litres();
        barsInTheirOrder();
        ages();
        rests();
        air();
        twelveBatches();
        wash();
        harden();
        CHECK.end();
    }

    /** Mix 0 (HARMS 3), 1 (HARMS 1), both 500 kilograms, proved, of age 4. */
    private static OverrunHouse ready() {
        OverrunHouse h = new OverrunHouse();
        h.ingredient(0, 80, 160, 7, 3);
        h.ingredient(0, 80, 160, 7, 1);
        h.mix(0, 500);
        h.mix(1, 500);
        h.heat(0, 80, 15);
        h.heat(1, 80, 15);
        h.pass(4);
        return h;
    }

    private static void wrongRuns() {
        OverrunHouse h = ready();
        CHECK.noIndex("run: barrel -1", h, () -> h.run(-1, 0, 5, 20));
        CHECK.noIndex("run: barrel 2", h, () -> h.run(2, 0, 5, 20));
        CHECK.noIndex("run: mix -1", h, () -> h.run(0, -1, 5, 20));
        CHECK.noIndex("run: mix 2", h, () -> h.run(0, 2, 5, 20));
        CHECK.noIndex("run: mix 2, kilos 4", h, () -> h.run(0, 2, 4, 20));
        CHECK.noIndex("run: barrel 2, air 141", h, () -> h.run(2, 0, 5, 141));
        CHECK.noArgument("run: kilos 4", h, () -> h.run(0, 0, 4, 20));
        CHECK.noArgument("run: kilos 501", h, () -> h.run(0, 0, 501, 20));
        CHECK.noArgument("run: air 19", h, () -> h.run(0, 0, 5, 19));
        CHECK.noArgument("run: air 141", h, () -> h.run(0, 0, 5, 141));
        CHECK.noIndex("bars: barrel -1", h, () -> h.bars(-1, 0, 5, 20));
        CHECK.noIndex("bars: barrel 2", h, () -> h.bars(2, 0, 5, 20));
        CHECK.noIndex("bars: mix -1", h, () -> h.bars(0, -1, 5, 20));
        CHECK.noIndex("bars: mix 2", h, () -> h.bars(0, 2, 5, 20));
        CHECK.noIndex("bars: mix 2, kilos 501", h, () -> h.bars(0, 2, 501, 20));
        CHECK.noArgument("bars: kilos 4", h, () -> h.bars(0, 0, 4, 20));
        CHECK.noArgument("bars: kilos 501", h, () -> h.bars(0, 0, 501, 20));
        CHECK.noArgument("bars: air 19", h, () -> h.bars(0, 0, 5, 19));
        CHECK.noArgument("bars: air 141", h, () -> h.bars(0, 0, 5, 141));
        OverrunHouse raw = new OverrunHouse();
        raw.ingredient(0, 0, 0, 1, 0);
        raw.mix(0, 10);
        CHECK.noArgument("run: not proved, and air 141", raw, () -> raw.run(0, 0, 5, 141));
    }

    private static void runs() {
        OverrunHouse h = ready();
        CHECK.same("1st", h.run(0, 0, 100, 60), 0);
        CHECK.same("2nd", h.run(1, 1, 400, 140), 1);
        CHECK.same("3rd", h.run(0, 0, 400, 20), 2);
        CHECK.same("left of 0", h.ofMix(0, 1), 0);
        CHECK.same("left of 1", h.ofMix(1, 1), 100);
        CHECK.same("kilos of 0", h.ofMix(0, 0), 500);
        CHECK.same("batches of 0", h.ofMix(0, 8), 2);
        CHECK.same("rests of barrel 0", h.many(8), 3);
        CHECK.same("rests of barrel 1", h.many(9), 1);
        CHECK.same("batches", h.many(2), 3);
        int[] due = {0, 98 * 160 / 100, 0, -1, 0, 0};
        for (int what = 0; what <= 5; what++) {
            CHECK.same("ofBatch(0, " + what + ")", h.ofBatch(0, what), due[what]);
        }
        CHECK.same("mix of 1", h.ofBatch(1, 0), 1);
        CHECK.same("crystal", h.crystal(2), 20.0);
    }

    private static void litres() {
        OverrunHouse h = ready();
        int[] kilos = {5, 6, 7, 33, 100};
        int[] air = {20, 33, 99, 140, 57};
        int[] due = {3, 5, 9, 74, 153};
        for (int i = 0; i < kilos.length; i++) {
            h.run(0, 0, kilos[i], air[i]);
            CHECK.same("litres of " + kilos[i] + " with " + air[i], h.ofBatch(i, 1), due[i]);
        }
    }

    private static void same(OverrunHouse h, int barrel, int mix, int kilos, int air, int due) {
        String call = "(" + barrel + ", " + mix + ", " + kilos + ", " + air + ")";
        CHECK.same("bars" + call, h.bars(barrel, mix, kilos, air), due);
        long before = h.digest();
        CHECK.same("run" + call, h.run(barrel, mix, kilos, air), -10 - due);
        CHECK.same("nothing is done by run" + call, h.digest(), before);
    }

    /** All bars stand at first; one after the other is taken away. */
    private static void barsInTheirOrder() {
        OverrunHouse h = new OverrunHouse();
        h.ingredient(0, 0, 0, 1, 15);
        h.ingredient(100, 80, 160, 1, 1);
        h.mix(0, 500);
        h.mix(1, 100);
        h.mix(1, 200);
        h.mix(1, 200);
        h.heat(0, 80, 15);
        h.pass(4);
        for (int i = 0; i < 11; i++) {
            CHECK.same("a run", h.run(0, 0, 5, 20), i);
        }
        CHECK.same("many batches", h.run(1, 0, 5, 20), 11);
        same(h, 0, 1, 101, 101, 1);
        h.heat(1, 80, 15);
        same(h, 0, 1, 101, 101, 2);
        h.pass(3);
        same(h, 0, 1, 101, 101, 2);
        h.pass(1);
        same(h, 0, 1, 101, 101, 4);
        same(h, 0, 1, 100, 101, 5);
        h.wash(0);
        same(h, 0, 1, 100, 101, 6);
        same(h, 0, 1, 100, 100, 7);
        h.pass(48);
        h.pass(20);
        same(h, 0, 1, 100, 100, 7);
        h.pass(1);
        same(h, 0, 1, 101, 101, 3);
        same(h, 0, 2, 101, 101, 1);
    }

    private static void ages() {
        OverrunHouse h = ready();
        CHECK.same("age 4", h.bars(0, 0, 5, 20), 0);
        h.pass(48);
        h.pass(20);
        CHECK.same("age 72", h.bars(0, 0, 5, 20), 0);
        CHECK.same("run at 72", h.run(0, 0, 5, 20), 0);
        h.pass(1);
        same(h, 0, 0, 5, 20, 3);
    }

    private static void rests() {
        OverrunHouse h = ready();
        h.run(0, 1, 5, 20);
        CHECK.same("1 in 3", h.bars(0, 0, 5, 20), 0);
        h.run(0, 0, 5, 20);
        same(h, 0, 1, 5, 20, 5);
        CHECK.same("the other barrel", h.bars(1, 1, 5, 20), 0);
        CHECK.same("the same mix", h.bars(0, 0, 5, 20), 0);
    }

    private static void air() {
        OverrunHouse h = new OverrunHouse();
        h.ingredient(100, 80, 0, 1, 0);
        h.ingredient(99, 80, 0, 1, 0);
        h.mix(0, 500);
        h.mix(1, 500);
        h.heat(0, 80, 15);
        h.heat(1, 80, 15);
        h.pass(4);
        same(h, 0, 0, 5, 101, 6);
        same(h, 1, 0, 5, 140, 6);
        CHECK.same("cream with 100", h.run(0, 0, 5, 100), 0);
        CHECK.same("no cream with 140", h.run(0, 1, 5, 140), 1);
    }

    private static void twelveBatches() {
        OverrunHouse h = ready();
        for (int i = 0; i < 12; i++) {
            CHECK.same("run", h.run(i % 2, 0, 5, 20), i);
        }
        same(h, 0, 0, 5, 20, 7);
        CHECK.same("batches", h.many(2), 12);
        h.pass(1);
        same(h, 0, 0, 5, 20, 7);
    }

    private static void wash() {
        OverrunHouse h = ready();
        CHECK.noIndex("wash(-1)", h, () -> h.wash(-1));
        CHECK.noIndex("wash(2)", h, () -> h.wash(2));
        h.run(0, 0, 5, 20);
        h.run(1, 1, 5, 20);
        CHECK.same("wash(0)", h.wash(0), 3);
        CHECK.same("rests of 0", h.many(8), 0);
        CHECK.same("rests of 1", h.many(9), 1);
        CHECK.same("wash(0) again", h.wash(0), 0);
        CHECK.same("wash(1)", h.wash(1), 1);
        CHECK.same("washes ever", h.many(10), 3);
        CHECK.same("free for the other mix", h.bars(0, 1, 5, 20), 0);
    }

    private static void harden() {
        OverrunHouse h = ready();
        for (int i = 0; i < 4; i++) {
            h.run(0, 0, 5, 20);
        }
        CHECK.noIndex("batch -1", h, () -> h.harden(-1, 10));
        CHECK.noIndex("batch 4", h, () -> h.harden(4, 10));
        CHECK.noIndex("batch 4, minutes 9", h, () -> h.harden(4, 9));
        CHECK.noArgument("minutes 9", h, () -> h.harden(0, 9));
        CHECK.noArgument("minutes 91", h, () -> h.harden(0, 91));
        CHECK.same("10 minutes", h.harden(0, 10), 22.5);
        CHECK.same("11 minutes", h.harden(1, 11), 22.75);
        CHECK.same("90 minutes", h.harden(2, 90), 42.5);
        CHECK.same("crystal", h.crystal(1), 22.75);
        CHECK.same("hard", h.ofBatch(1, 2), 1);
        CHECK.same("still on the belt", h.ofBatch(1, 3), -1);
        CHECK.same("not hard", h.ofBatch(3, 2), 0);
        CHECK.noState("hard already", h, () -> h.harden(0, 10));
        CHECK.noArgument("hard already, minutes 9", h, () -> h.harden(0, 9));
        h.store(-20);
        h.lay(0, 0);
        CHECK.noState("in a store", h, () -> h.harden(0, 10));
        h.sell(0, 1);
        CHECK.noState("sold", h, () -> h.harden(0, 10));
        h.pass(1);
        CHECK.noState("lost", h, () -> h.harden(3, 10));
        CHECK.same("crystal of the lost one", h.crystal(3), 20.0);
    }
}
