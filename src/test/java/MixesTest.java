/** Promises 1 to 5 and 16 to 18: ingredients, mixes, heat, and what is asked of a mix. */
public final class MixesTest {
    private static final Check CHECK = new Check();

    public static void main(String[] args) {
        newHouse();
        ingredient();
        mix();
        put();
        heat();
        heatByDegrees();
        ofMix();
        ofMixCream();
        part();
        ice();
        CHECK.end();
    }

    private static void newHouse() {
        OverrunHouse h = new OverrunHouse();
        for (int what = 0; what <= 11; what++) {
            CHECK.same("new: many(" + what + ")", h.many(what), 0);
        }
        CHECK.noIndex("new: mix(0, 1)", h, () -> h.mix(0, 1));
        CHECK.noIndex("new: ofMix(0, 0)", h, () -> h.ofMix(0, 0));
        CHECK.noIndex("new: ofBatch(0, 0)", h, () -> h.ofBatch(0, 0));
        CHECK.noIndex("new: temp(0)", h, () -> h.temp(0));
        CHECK.same("new: day(0, true)", h.day(0, true), 0);
        h.ingredient(1, 1, 1, 1, 1);
        CHECK.same("another house has its own state", new OverrunHouse().many(0), 0);
    }

    private static void ingredient() {
        OverrunHouse h = new OverrunHouse();
        CHECK.noArgument("fat -1", h, () -> h.ingredient(-1, 0, 0, 1, 0));
        CHECK.noArgument("milk -1", h, () -> h.ingredient(1, -1, 0, 1, 0));
        CHECK.noArgument("sugar -1", h, () -> h.ingredient(1, 1, -1, 1, 0));
        CHECK.noArgument("fat 1001", h, () -> h.ingredient(1001, 0, 0, 1, 0));
        CHECK.noArgument("milk 1001", h, () -> h.ingredient(0, 1001, 0, 1, 0));
        CHECK.noArgument("sugar 1001", h, () -> h.ingredient(0, 0, 1001, 1, 0));
        CHECK.noArgument("together 1001", h, () -> h.ingredient(333, 333, 335, 1, 0));
        CHECK.noArgument("together 2^32 + 1", h,
                () -> h.ingredient(Integer.MAX_VALUE, Integer.MAX_VALUE, 3, 1, 0));
        CHECK.noArgument("cost 0", h, () -> h.ingredient(0, 0, 0, 0, 0));
        CHECK.noArgument("cost 100", h, () -> h.ingredient(0, 0, 0, 100, 0));
        CHECK.noArgument("harms -1", h, () -> h.ingredient(0, 0, 0, 1, -1));
        CHECK.noArgument("harms 16", h, () -> h.ingredient(0, 0, 0, 1, 16));
        CHECK.same("1st", h.ingredient(0, 0, 0, 1, 0), 0);
        CHECK.same("2nd", h.ingredient(333, 333, 334, 99, 15), 1);
        CHECK.same("3rd", h.ingredient(1000, 0, 0, 1, 1), 2);
        CHECK.same("4th", h.ingredient(0, 1000, 0, 1, 2), 3);
        CHECK.same("5th", h.ingredient(0, 0, 1000, 1, 4), 4);
        CHECK.same("6th", h.ingredient(5, 4, 3, 2, 8), 5);
        CHECK.same("many(0)", h.many(0), 6);
        CHECK.noState("7th", h, () -> h.ingredient(5, 4, 3, 2, 8));
        CHECK.noArgument("7th and wrong", h, () -> h.ingredient(5, 4, 3, 0, 8));
        CHECK.same("mix of the 6th", h.mix(5, 10), 0);
        CHECK.same("its harms", h.ofMix(0, 3), 8);
        CHECK.same("its cost", h.ofMix(0, 2), 20);
        CHECK.same("its fat", h.part(0, 0), 0.5);
        CHECK.same("its milk", h.part(0, 1), 0.4);
        CHECK.same("its sugar", h.part(0, 2), 0.3);
    }

    private static void mix() {
        OverrunHouse h = new OverrunHouse();
        h.ingredient(100, 80, 160, 7, 5);
        CHECK.noIndex("ingredient -1", h, () -> h.mix(-1, 10));
        CHECK.noIndex("ingredient 1", h, () -> h.mix(1, 10));
        CHECK.noIndex("ingredient 1 and kilos 0", h, () -> h.mix(1, 0));
        CHECK.noIndex("ingredient MAX", h, () -> h.mix(Integer.MAX_VALUE, 1));
        CHECK.noIndex("ingredient MIN", h, () -> h.mix(Integer.MIN_VALUE, 1));
        CHECK.noArgument("kilos 0", h, () -> h.mix(0, 0));
        CHECK.noArgument("kilos 501", h, () -> h.mix(0, 501));
        CHECK.same("1st", h.mix(0, 1), 0);
        CHECK.same("2nd", h.mix(0, 500), 1);
        CHECK.same("3rd", h.mix(0, 30), 2);
        CHECK.same("4th", h.mix(0, 40), 3);
        CHECK.same("5th", h.mix(0, 50), 4);
        CHECK.same("many(1)", h.many(1), 5);
        CHECK.noState("6th", h, () -> h.mix(0, 50));
        CHECK.noArgument("6th, kilos 0", h, () -> h.mix(0, 0));
        CHECK.noIndex("6th, ingredient 1", h, () -> h.mix(1, 10));
        CHECK.same("kilos of the 2nd", h.ofMix(1, 0), 500);
        CHECK.same("left of the 2nd", h.ofMix(1, 1), 500);
        CHECK.same("cost of the 2nd", h.ofMix(1, 2), 3500);
        CHECK.same("harms of the 2nd", h.ofMix(1, 3), 5);
        CHECK.same("not proved", h.ofMix(1, 4), 0);
        CHECK.same("age", h.ofMix(1, 5), 0);
    }

    private static void put() {
        OverrunHouse h = new OverrunHouse();
        h.ingredient(100, 80, 160, 7, 5);
        h.ingredient(0, 0, 0, 99, 2);
        h.mix(0, 100);
        CHECK.noIndex("mix -1", h, () -> h.put(-1, 0, 1));
        CHECK.noIndex("mix 1", h, () -> h.put(1, 0, 1));
        CHECK.noIndex("ingredient -1", h, () -> h.put(0, -1, 1));
        CHECK.noIndex("ingredient 2", h, () -> h.put(0, 2, 1));
        CHECK.noIndex("ingredient 2 and kilos 0", h, () -> h.put(0, 2, 0));
        CHECK.noArgument("kilos 0", h, () -> h.put(0, 1, 0));
        CHECK.noArgument("kilos 501, which is too much, too", h, () -> h.put(0, 1, 501));
        CHECK.noArgument("kilos MAX", h, () -> h.put(0, 1, Integer.MAX_VALUE));
        CHECK.noState("501 together", h, () -> h.put(0, 1, 401));
        h.heat(0, 80, 15);
        h.pass(4);
        CHECK.same("100 more", h.put(0, 1, 100), 200);
        CHECK.same("kilos", h.ofMix(0, 0), 200);
        CHECK.same("left", h.ofMix(0, 1), 200);
        CHECK.same("cost", h.ofMix(0, 2), 100 * 7 + 100 * 99);
        CHECK.same("harms", h.ofMix(0, 3), 7);
        CHECK.same("no more proved", h.ofMix(0, 4), 0);
        CHECK.same("its age stays", h.ofMix(0, 5), 4);
        CHECK.same("its ingredients", h.ofMix(0, 7), 3);
        CHECK.same("fat", h.part(0, 0), 5.0);
        CHECK.same("just 500 together", h.put(0, 0, 300), 500);
        CHECK.noState("501 together, again", h, () -> h.put(0, 0, 1));
        h.mix(0, 100);
        h.heat(1, 80, 15);
        h.pass(4);
        h.run(0, 1, 5, 20);
        CHECK.noState("something was run", h, () -> h.put(1, 0, 1));
        CHECK.noArgument("something was run, kilos 0", h, () -> h.put(1, 0, 0));
        CHECK.noIndex("something was run, ingredient 2", h, () -> h.put(1, 2, 1));
        CHECK.same("still proved", h.ofMix(1, 4), 1);
    }

    private static void heat() {
        OverrunHouse h = new OverrunHouse();
        h.ingredient(100, 80, 160, 7, 5);
        h.mix(0, 100);
        CHECK.noIndex("mix -1", h, () -> h.heat(-1, 80, 15));
        CHECK.noIndex("mix 1", h, () -> h.heat(1, 80, 15));
        CHECK.noIndex("mix 1, 19 degrees", h, () -> h.heat(1, 19, 15));
        h.pass(5);
        CHECK.noArgument("19 degrees", h, () -> h.heat(0, 19, 15));
        CHECK.noArgument("121 degrees", h, () -> h.heat(0, 121, 15));
        CHECK.noArgument("0 seconds", h, () -> h.heat(0, 80, 0));
        CHECK.noArgument("10000 seconds", h, () -> h.heat(0, 80, 10000));
        CHECK.same("age", h.ofMix(0, 5), 5);
        CHECK.same("not proved by 20 degrees", h.heat(0, 20, 1), false);
        CHECK.same("age is 0, not proved", h.ofMix(0, 5), 0);
        h.pass(6);
        CHECK.same("proved by 120 degrees", h.heat(0, 120, 9999), true);
        CHECK.same("age is 0, proved", h.ofMix(0, 5), 0);
        h.pass(7);
        CHECK.same("stays proved", h.heat(0, 20, 1), true);
        CHECK.same("asked: proved", h.ofMix(0, 4), 1);
        CHECK.same("age is 0, proved ahead", h.ofMix(0, 5), 0);
        h.put(0, 0, 1);
        CHECK.same("not proved after put", h.heat(0, 64, 9999), false);
        h.heat(0, 80, 15);
        h.pass(4);
        h.run(0, 0, 5, 20);
        CHECK.same("heated behind a run", h.heat(0, 20, 1), true);
        CHECK.same("its age then", h.bars(0, 0, 5, 20), 2);
    }

    private static void heatByDegrees() {
        int[] degrees = {64, 65, 69, 70, 74, 75, 79, 80, 120};
        int[] seconds = {10000, 1800, 1800, 300, 300, 60, 60, 15, 15};
        OverrunHouse h = new OverrunHouse();
        h.ingredient(0, 0, 0, 1, 0);
        h.mix(0, 1);
        for (int i = 0; i < degrees.length; i++) {
            String call = "heat to " + degrees[i];
            CHECK.same(call + ", too short", h.heat(0, degrees[i], seconds[i] - 1), false);
            if (seconds[i] <= 9999) {
                CHECK.same(call + ", just long", h.heat(0, degrees[i], seconds[i]), true);
                h.put(0, 0, 1);
            }
        }
    }

    private static void ofMix() {
        OverrunHouse h = new OverrunHouse();
        h.ingredient(100, 80, 160, 7, 4);
        h.ingredient(0, 0, 0, 3, 1);
        h.ingredient(0, 0, 0, 2, 8);
        h.mix(0, 100);
        h.mix(2, 50);
        h.put(1, 1, 25);
        CHECK.noIndex("mix -1", h, () -> h.ofMix(-1, 0));
        CHECK.noIndex("mix 2", h, () -> h.ofMix(2, 0));
        CHECK.noIndex("mix 2, what 9", h, () -> h.ofMix(2, 9));
        CHECK.noArgument("what -1", h, () -> h.ofMix(0, -1));
        CHECK.noArgument("what 9", h, () -> h.ofMix(0, 9));
        h.heat(1, 90, 15);
        h.pass(4);
        h.run(0, 1, 20, 20);
        h.run(0, 1, 10, 20);
        int[] due = {75, 45, 175, 9, 1, 4, 0, 6, 2};
        for (int what = 0; what <= 8; what++) {
            CHECK.same("ofMix(1, " + what + ")", h.ofMix(1, what), due[what]);
        }
        int[] other = {100, 100, 700, 4, 0, 4, 1, 1, 0};
        for (int what = 0; what <= 8; what++) {
            CHECK.same("ofMix(0, " + what + ")", h.ofMix(0, what), other[what]);
        }
    }

    private static void ofMixCream() {
        OverrunHouse h = new OverrunHouse();
        h.ingredient(100, 80, 0, 1, 0);
        h.ingredient(99, 80, 0, 1, 0);
        h.ingredient(100, 79, 0, 1, 0);
        for (int i = 0; i < 3; i++) {
            h.mix(i, 10);
        }
        CHECK.same("fat 10.0, milk 8.0", h.ofMix(0, 6), 1);
        CHECK.same("fat 9.9", h.ofMix(1, 6), 0);
        CHECK.same("milk 7.9", h.ofMix(2, 6), 0);
        h.put(0, 1, 1);
        CHECK.same("no more cream", h.ofMix(0, 6), 0);
    }

    private static void part() {
        OverrunHouse h = new OverrunHouse();
        h.ingredient(250, 60, 3, 20, 1);
        h.ingredient(7, 350, 50, 8, 3);
        h.mix(0, 100);
        h.put(0, 1, 37);
        CHECK.noIndex("mix -1", h, () -> h.part(-1, 0));
        CHECK.noIndex("mix 1", h, () -> h.part(1, 0));
        CHECK.noIndex("mix 1, what 4", h, () -> h.part(1, 4));
        CHECK.noArgument("what -1", h, () -> h.part(0, -1));
        CHECK.noArgument("what 4", h, () -> h.part(0, 4));
        double fat = (double) (100 * 250 + 37 * 7) / 137 / 10.0;
        double milk = (double) (100 * 60 + 37 * 350) / 137 / 10.0;
        double sugar = (double) (100 * 3 + 37 * 50) / 137 / 10.0;
        CHECK.same("fat", h.part(0, 0), fat);
        CHECK.same("milk", h.part(0, 1), milk);
        CHECK.same("sugar", h.part(0, 2), sugar);
        CHECK.same("freezes", h.part(0, 3), -(sugar * 0.0625 + milk * 0.03125));
        h.heat(0, 90, 15);
        h.pass(4);
        h.run(0, 0, 100, 20);
        CHECK.same("what is taken out changes nothing", h.part(0, 1), milk);
        h.ingredient(10, 0, 0, 1, 0);
        h.mix(2, 1);
        CHECK.same("without sugar and milk", h.part(1, 3), -0.0);
        CHECK.same("of one kilogram", h.part(1, 0), 1.0);
    }

    private static void ice() {
        OverrunHouse h = new OverrunHouse();
        h.ingredient(0, 320, 160, 1, 0);
        h.ingredient(1000, 0, 0, 1, 0);
        h.mix(0, 10);
        h.mix(1, 10);
        CHECK.noIndex("mix -1", h, () -> h.ice(-1, 0));
        CHECK.noIndex("mix 2", h, () -> h.ice(2, 0));
        CHECK.noIndex("mix 2, temp 21", h, () -> h.ice(2, 21));
        CHECK.noArgument("temp 21", h, () -> h.ice(0, 21));
        CHECK.noArgument("temp -41", h, () -> h.ice(0, -41));
        CHECK.same("freezes", h.part(0, 3), -2.0);
        CHECK.same("warm", h.ice(0, 20), 0.0);
        CHECK.same("above", h.ice(0, -1), 0.0);
        CHECK.same("just there", h.ice(0, -2), 0.0);
        CHECK.same("below", h.ice(0, -3), 1.0 - -2.0 / -3.0);
        CHECK.same("coldest", h.ice(0, -40), 0.95);
        CHECK.same("fat at 1", h.ice(1, 1), 0.0);
        CHECK.same("fat at 0", h.ice(1, 0), 0.0);
        CHECK.same("fat at -1", h.ice(1, -1), 1.0);
    }
}
