/** Promises 9 to 15 and 20 to 23: stores, hours, sales, calls back, and what is asked of them. */
public final class ColdTest {
    private static final Check CHECK = new Check();

    public static void main(String[] args) {
        store();
        set();
        lay();
        door();
        pass();
        hourInTheCold();
        hourThatLoses();
        sell();
        coarseIsNotSold();
        call();
        calledLater();
        ofBatch();
        askedOfWhatIsNot();
        many();
        CHECK.end();
    }

    /** One mix (it freezes at -1.25) and so many batches of it, all hard, with CRYSTAL 22.5. */
    private static OverrunHouse hard(int batches) {
        OverrunHouse h = new OverrunHouse();
        h.ingredient(0, 80, 160, 7, 3);
        h.mix(0, 500);
        h.heat(0, 80, 15);
        h.pass(4);
        for (int i = 0; i < batches; i++) {
            h.run(0, 0, 12, 50);
            h.harden(i, 10);
        }
        return h;
    }

    private static double ice(double t) {
        return t < -1.25 ? 1.0 - -1.25 / t : 0.0;
    }

    private static void store() {
        OverrunHouse h = new OverrunHouse();
        CHECK.noArgument("store(-31)", h, () -> h.store(-31));
        CHECK.noArgument("store(-9)", h, () -> h.store(-9));
        CHECK.same("1st", h.store(-30), 0);
        CHECK.same("2nd", h.store(-10), 1);
        CHECK.same("3rd", h.store(-18), 2);
        CHECK.same("many(5)", h.many(5), 3);
        CHECK.noState("4th", h, () -> h.store(-18));
        CHECK.noArgument("4th and wrong", h, () -> h.store(-31));
        CHECK.same("temp(0)", h.temp(0), -30.0);
        CHECK.same("temp(1)", h.temp(1), -10.0);
        CHECK.same("temp(2)", h.temp(2), -18.0);
    }

    private static void set() {
        OverrunHouse h = new OverrunHouse();
        h.store(-10);
        CHECK.noIndex("store -1", h, () -> h.set(-1, -20));
        CHECK.noIndex("store 1", h, () -> h.set(1, -20));
        CHECK.noIndex("store 1, set -9", h, () -> h.set(1, -9));
        CHECK.noArgument("set -31", h, () -> h.set(0, -31));
        CHECK.noArgument("set -9", h, () -> h.set(0, -9));
        CHECK.same("set -30", h.set(0, -30), -10);
        CHECK.same("temp stays", h.temp(0), -10.0);
        h.pass(1);
        CHECK.same("temp behind an hour", h.temp(0), -15.0);
        CHECK.same("set -10", h.set(0, -10), -30);
        h.pass(1);
        CHECK.same("temp behind another", h.temp(0), -13.75);
        CHECK.noArgument("set -9 again", h, () -> h.set(0, -9));
        CHECK.same("set -20", h.set(0, -20), -10);
    }

    private static void lay() {
        OverrunHouse h = hard(4);
        h.run(0, 0, 5, 20);
        h.store(-20);
        h.store(-30);
        CHECK.noIndex("batch -1", h, () -> h.lay(-1, 0));
        CHECK.noIndex("batch 5", h, () -> h.lay(5, 0));
        CHECK.noIndex("store -1", h, () -> h.lay(0, -1));
        CHECK.noIndex("store 2", h, () -> h.lay(0, 2));
        CHECK.noIndex("soft, store 2", h, () -> h.lay(4, 2));
        CHECK.noState("soft", h, () -> h.lay(4, 0));
        CHECK.same("1st", h.lay(0, 0), 1);
        CHECK.same("2nd", h.lay(1, 0), 2);
        CHECK.same("other store", h.lay(2, 1), 1);
        CHECK.same("where", h.ofBatch(1, 3), 0);
        CHECK.same("where, 2", h.ofBatch(2, 3), 1);
        long before = h.digest();
        CHECK.same("again", h.lay(1, 0), 2);
        CHECK.same("again: nothing is changed", h.digest(), before);
        CHECK.same("from another store", h.lay(1, 1), 2);
        CHECK.same("where then", h.ofBatch(1, 3), 1);
        h.sell(0, 1);
        CHECK.noState("sold", h, () -> h.lay(0, 0));
        CHECK.same("a sold one is in no store", h.lay(3, 0), 1);
        h.pass(1);
        CHECK.noState("lost", h, () -> h.lay(4, 0));
        h.door(0, 20);
        h.pass(1);
        CHECK.same("lost and hard", h.ofBatch(3, 3), 11);
        CHECK.noState("lost and hard: lay", h, () -> h.lay(3, 0));
        CHECK.noIndex("lost, store 2", h, () -> h.lay(3, 2));
    }

    private static void door() {
        OverrunHouse h = new OverrunHouse();
        h.store(-30);
        h.store(-10);
        CHECK.noIndex("store -1", h, () -> h.door(-1, 1));
        CHECK.noIndex("store 2", h, () -> h.door(2, 1));
        CHECK.noIndex("store 2, often 0", h, () -> h.door(2, 0));
        CHECK.noArgument("often 0", h, () -> h.door(0, 0));
        CHECK.noArgument("often 21", h, () -> h.door(0, 21));
        CHECK.same("once", h.door(0, 1), -28.5);
        CHECK.same("twenty times", h.door(0, 20), 1.5);
        CHECK.same("to 7.5", h.door(0, 4), 7.5);
        CHECK.same("no more than 8.0", h.door(0, 1), 8.0);
        CHECK.same("still", h.door(0, 20), 8.0);
        CHECK.same("temp", h.temp(0), 8.0);
        CHECK.same("the other store", h.temp(1), -10.0);
        h.pass(1);
        CHECK.same("cold again", h.temp(0), 8.0 + (-30.0 - 8.0) * 0.25);
    }

    private static void pass() {
        OverrunHouse h = hard(2);
        h.mix(0, 10);
        h.run(0, 0, 5, 20);
        CHECK.noArgument("hours 0", h, () -> h.pass(0));
        CHECK.noArgument("hours 49", h, () -> h.pass(49));
        CHECK.noArgument("hours -1", h, () -> h.pass(-1));
        CHECK.same("soft on the belt is lost", h.pass(1), 1);
        CHECK.same("where", h.ofBatch(2, 3), 11);
        CHECK.same("hard on the belt is not", h.ofBatch(0, 3), -1);
        CHECK.same("48 hours", h.pass(48), 1);
        CHECK.same("crystal on the belt", h.crystal(0), 22.5);
        CHECK.same("hours ever", h.many(6), 53);
        CHECK.same("age of 0", h.ofMix(0, 5), 53);
        CHECK.same("age of 1, never proved", h.ofMix(1, 5), 49);
    }

    private static void hourInTheCold() {
        OverrunHouse h = hard(3);
        h.store(-10);
        h.store(-28);
        h.lay(0, 0);
        h.lay(1, 1);
        h.lay(2, 0);
        h.door(0, 4);
        double t1 = -4.0 + (-10.0 - -4.0) * 0.25;
        double c1 = 22.5 + 24.0 * (ice(t1) - ice(-4.0));
        h.pass(1);
        CHECK.same("temp, 1 hour", h.temp(0), t1);
        CHECK.same("crystal, 1 hour", h.crystal(0), c1);
        CHECK.same("crystal, 1 hour, another", h.crystal(2), c1);
        CHECK.same("no change in the other store", h.crystal(1), 22.5);
        double t2 = t1 + (-10.0 - t1) * 0.25;
        double c2 = c1 + 24.0 * (ice(t2) - ice(t1));
        h.pass(1);
        CHECK.same("crystal, 2 hours", h.crystal(0), c2);
        h.set(1, -10);
        h.pass(1);
        CHECK.same("warmer", h.temp(1), -23.5);
        CHECK.same("coarser by warming, too", h.crystal(1),
                22.5 + 24.0 * (ice(-28.0) - ice(-23.5)));
        h.lay(1, 0);
        double before = h.crystal(1);
        double t3 = h.temp(0);
        h.pass(1);
        CHECK.same("laid into the other store", h.crystal(1),
                before + 24.0 * Math.abs(ice(t3) - ice(h.temp(0))));
    }

    /** What counts is TEMP ahead of the hour: -1.25, where the mix freezes, is not below. */
    private static void hourThatLoses() {
        OverrunHouse h = new OverrunHouse();
        h.ingredient(0, 0, 160, 1, 0);
        h.ingredient(0, 0, 168, 1, 0);
        h.ingredient(1000, 0, 0, 1, 0);
        for (int i = 0; i < 3; i++) {
            h.mix(i, 100);
            h.heat(i, 80, 15);
        }
        h.pass(4);
        for (int i = 0; i < 3; i++) {
            h.run(0, i, 12, 50);
            h.harden(i, 10);
        }
        h.store(-10);
        for (int i = 0; i < 3; i++) {
            h.lay(i, 0);
        }
        CHECK.same("freezes", h.part(0, 3), -1.0);
        CHECK.same("freezes, 1", h.part(1, 3), -1.05);
        h.door(0, 6);
        CHECK.same("temp", h.temp(0), -1.0);
        CHECK.same("lost", h.pass(1), 2);
        CHECK.same("just at the point", h.ofBatch(0, 3), 11);
        CHECK.same("above the point", h.ofBatch(1, 3), 11);
        CHECK.same("below the point", h.ofBatch(2, 3), 0);
        CHECK.same("coarser, lost", h.crystal(0), 22.5 + 24.0 * (1.0 - -1.0 / -3.25));
        CHECK.same("not coarser: all ice", h.crystal(2), 22.5);
        double lost = h.crystal(0);
        h.pass(5);
        CHECK.same("a lost one stays as it is", h.crystal(0), lost);
        CHECK.same("lost of all", h.pass(1), 2);
    }

    private static void sell() {
        OverrunHouse h = hard(3);
        h.store(-20);
        h.lay(0, 0);
        h.lay(1, 0);
        CHECK.noIndex("batch -1", h, () -> h.sell(-1, 5));
        CHECK.noIndex("batch 3", h, () -> h.sell(3, 5));
        CHECK.noIndex("batch 3, price 0", h, () -> h.sell(3, 0));
        CHECK.noArgument("price 0", h, () -> h.sell(0, 0));
        CHECK.noArgument("price 100", h, () -> h.sell(0, 100));
        CHECK.noState("on the belt", h, () -> h.sell(2, 5));
        CHECK.noArgument("on the belt, price 0", h, () -> h.sell(2, 0));
        CHECK.same("sold", h.sell(0, 1), 15);
        CHECK.same("where", h.ofBatch(0, 3), 10);
        CHECK.noState("sold already", h, () -> h.sell(0, 5));
        CHECK.same("sold, 2nd", h.sell(1, 99), 15 + 15 * 99);
        CHECK.same("gain", h.many(7), 15 + 15 * 99);
        CHECK.same("how many", h.many(4), 2);
        double before = h.crystal(0);
        h.door(0, 20);
        h.pass(2);
        CHECK.same("a sold one stays", h.ofBatch(0, 3), 10);
        CHECK.same("its crystal, too", h.crystal(0), before);
        OverrunHouse lost = hard(1);
        lost.store(-10);
        lost.lay(0, 0);
        lost.door(0, 20);
        lost.pass(1);
        CHECK.noState("lost", lost, () -> lost.sell(0, 5));
    }

    /** From -4.0 to -8.0 in an hour, of a mix that freezes at -3.0: just 9.0 more. */
    private static void coarseIsNotSold() {
        OverrunHouse h = new OverrunHouse();
        h.ingredient(0, 0, 480, 1, 0);
        h.mix(0, 100);
        h.heat(0, 80, 15);
        h.pass(4);
        h.run(0, 0, 12, 50);
        h.run(0, 0, 12, 50);
        h.harden(0, 84);
        h.harden(1, 85);
        h.store(-10);
        h.lay(0, 0);
        h.lay(1, 0);
        h.door(0, 4);
        h.set(0, -20);
        h.pass(1);
        CHECK.same("temp", h.temp(0), -8.0);
        CHECK.same("just 50", h.crystal(0), 50.0);
        CHECK.same("just 50 is not coarse", h.ofBatch(0, 4), 0);
        CHECK.same("more than 50", h.crystal(1), 50.25);
        CHECK.same("more than 50 is coarse", h.ofBatch(1, 4), 1);
        CHECK.noState("coarse: sell", h, () -> h.sell(1, 5));
        CHECK.noArgument("coarse: sell, price 100", h, () -> h.sell(1, 100));
        CHECK.same("not coarse: sell", h.sell(0, 5), 75);
        CHECK.same("coarse: laid all the same", h.lay(1, 0), 1);
    }

    private static void call() {
        OverrunHouse h = new OverrunHouse();
        h.ingredient(0, 80, 160, 1, 0);
        h.ingredient(0, 0, 0, 1, 0);
        h.ingredient(0, 0, 0, 1, 0);
        h.mix(0, 100);
        h.mix(0, 100);
        h.put(1, 1, 100);
        h.heat(0, 80, 15);
        h.heat(1, 80, 15);
        h.pass(4);
        h.store(-20);
        int[] mixes = {0, 1, 1, 0, 1};
        for (int i = 0; i < mixes.length; i++) {
            h.run(0, mixes[i], 12 + i, 100);
            h.harden(i, 10);
            h.lay(i, 0);
        }
        CHECK.noIndex("ingredient -1", h, () -> h.call(-1));
        CHECK.noIndex("ingredient 3", h, () -> h.call(3));
        h.sell(0, 1);
        h.sell(1, 1);
        h.sell(2, 1);
        CHECK.same("called ahead", h.ofBatch(1, 5), 0);
        CHECK.same("call(2), which is in none", h.call(2), 0);
        CHECK.same("not called by it", h.ofBatch(1, 5), 0);
        CHECK.same("call(1)", h.call(1), 22 + 24);
        CHECK.same("called set", h.many(11), 6);
        CHECK.same("not called", h.ofBatch(3, 5), 0);
        CHECK.same("called and sold", h.ofBatch(1, 5), 1);
        CHECK.same("called and in a store", h.ofBatch(4, 5), 1);
        CHECK.noState("called: sell", h, () -> h.sell(4, 1));
        CHECK.same("not called: sell", h.sell(3, 1), 20 + 22 + 24 + 26);
        CHECK.same("call(0)", h.call(0), 20 + 22 + 24 + 26);
        CHECK.same("call(1) again", h.call(1), 22 + 24);
        CHECK.same("called set then", h.many(11), 7);
    }

    /** Batches that are made behind the call are called, too, and mixes that are put together. */
    private static void calledLater() {
        OverrunHouse h = new OverrunHouse();
        h.ingredient(0, 80, 160, 1, 0);
        h.ingredient(0, 0, 0, 1, 0);
        h.mix(0, 100);
        h.mix(0, 100);
        CHECK.same("call(1)", h.call(1), 0);
        h.put(1, 1, 10);
        h.heat(0, 80, 15);
        h.heat(1, 80, 15);
        h.pass(4);
        h.run(0, 0, 12, 50);
        h.run(0, 1, 12, 50);
        CHECK.same("without it", h.ofBatch(0, 5), 0);
        CHECK.same("with it", h.ofBatch(1, 5), 1);
        h.pass(1);
        CHECK.same("lost, and called", h.ofBatch(1, 5), 1);
    }

    private static void ofBatch() {
        OverrunHouse h = hard(2);
        h.mix(0, 50);
        h.heat(1, 80, 15);
        h.pass(4);
        h.run(0, 1, 22, 50);
        CHECK.noIndex("batch -1", h, () -> h.ofBatch(-1, 0));
        CHECK.noIndex("batch 3", h, () -> h.ofBatch(3, 0));
        CHECK.noIndex("batch 3, what 6", h, () -> h.ofBatch(3, 6));
        CHECK.noArgument("what -1", h, () -> h.ofBatch(0, -1));
        CHECK.noArgument("what 6", h, () -> h.ofBatch(0, 6));
        int[] soft = {1, 30, 0, -1, 0, 0};
        for (int what = 0; what <= 5; what++) {
            CHECK.same("soft, " + what, h.ofBatch(2, what), soft[what]);
        }
        h.store(-20);
        h.store(-20);
        h.lay(1, 1);
        h.call(0);
        int[] laid = {0, 15, 1, 1, 0, 1};
        for (int what = 0; what <= 5; what++) {
            CHECK.same("laid, " + what, h.ofBatch(1, what), laid[what]);
        }
    }

    private static void askedOfWhatIsNot() {
        OverrunHouse h = hard(1);
        h.store(-20);
        CHECK.noIndex("crystal(-1)", h, () -> h.crystal(-1));
        CHECK.noIndex("crystal(1)", h, () -> h.crystal(1));
        CHECK.noIndex("temp(-1)", h, () -> h.temp(-1));
        CHECK.noIndex("temp(1)", h, () -> h.temp(1));
        CHECK.same("crystal(0)", h.crystal(0), 22.5);
        CHECK.same("temp(0)", h.temp(0), -20.0);
    }

    private static void many() {
        OverrunHouse h = hard(3);
        h.ingredient(0, 0, 0, 1, 0);
        h.ingredient(0, 0, 0, 1, 1);
        h.mix(2, 50);
        h.heat(1, 80, 15);
        h.pass(4);
        h.run(1, 1, 5, 20);
        h.store(-20);
        h.lay(0, 0);
        h.lay(2, 0);
        h.sell(0, 2);
        h.sell(2, 3);
        h.pass(1);
        h.wash(1);
        h.call(2);
        CHECK.noArgument("what -1", h, () -> h.many(-1));
        CHECK.noArgument("what 12", h, () -> h.many(12));
        int[] due = {3, 2, 4, 1, 2, 1, 9, 75, 3, 0, 1, 4};
        for (int what = 0; what <= 11; what++) {
            CHECK.same("many(" + what + ")", h.many(what), due[what]);
        }
        h.run(1, 1, 5, 20);
        CHECK.same("rests of barrel 1", h.many(9), 1);
    }
}
