/** Promises 1 to 5 and 16 to 18: each sentence that names an edge, by a test of its own. */
public final class MixEdgesTest {
    private static final int MIN = Integer.MIN_VALUE;
    private static final int MAX = Integer.MAX_VALUE;
    private static final String INDEX = Edges.INDEX;
    private static final String ARGUMENT = Edges.ARGUMENT;
    private static final String STATE = Edges.STATE;
    private static final Check CHECK = new Check();
    private static final Edges NEW = new Edges(CHECK, "new", OverrunHouse::new);
    private static final Edges ONE = new Edges(CHECK, "one of each", Houses::one);
    private static final Edges MIXED = new Edges(CHECK, "5 mixes", () -> Houses.mixes(5));
    private static final Edges SIX = new Edges(CHECK, "6 ingredients", () -> Houses.ingredients(6));

    public static void main(String[] args) {
        countsOfANewHouse();
        nothingToPutTogether();
        nothingToAskFor();
        nothingInTheHours();
        fatMilkAndSugar();
        theirSum();
        belowZeroWithASumInRange();
        cost();
        harms();
        atMostSixIngredients();
        seventhIngredientAndWrong();
        ingredientOfAMix();
        kilosOfAMix();
        atMostFiveMixes();
        mixInItsOrder();
        mixAtFirst();
        numbersOfPut();
        kilosOfPut();
        kilosTogether();
        putBehindARun();
        putInItsOrder();
        putUnproves();
        putTheSameAgain();
        numberOfHeat();
        degrees();
        seconds();
        proof();
        provedStaysSo();
        ageByHeat();
        heatInItsOrder();
        whatOfAMix();
        ofMixAtItsEnds();
        cream();
        whatOfAPart();
        partAtItsEnds();
        partStays();
        temperatureOfIce();
        iceAtTheFreezingPoint();
        iceWithoutSugarAndMilk();
        CHECK.end();
    }

    // ---- promise 1

    /** "Creates a house without INGREDIENTS": of nothing there is one; RESTS are 0 at first. */
    private static void countsOfANewHouse() {
        for (int i = 0; i <= 11; i++) {
            int what = i;
            NEW.answers("many(" + what + ")", 0, h -> h.many(what));
        }
        NEW.answers("day(0, true)", 0, h -> h.day(0, true));
        NEW.answers("day(0, false)", 0, h -> h.day(0, false));
        NEW.answers("wash(0)", 0, h -> h.wash(0));
        NEW.answers("wash(1)", 0, h -> h.wash(1));
        NEW.answers("the first ingredient", 0, h -> h.ingredient(0, 0, 0, 1, 0));
        NEW.answers("the first store", 0, h -> h.store(-20));
    }

    /** Nothing there yet: the number 0 names no INGREDIENT, no MIX, no BATCH and no STORE. */
    private static void nothingToPutTogether() {
        NEW.refuses("mix(0, 1)", INDEX, h -> h.mix(0, 1));
        NEW.refuses("put(0, 0, 1)", INDEX, h -> h.put(0, 0, 1));
        NEW.refuses("heat(0, 80, 15)", INDEX, h -> h.heat(0, 80, 15) ? 1 : 0);
        NEW.refuses("run(0, 0, 5, 20)", INDEX, h -> h.run(0, 0, 5, 20));
        NEW.refuses("harden(0, 10)", INDEX, h -> h.harden(0, 10));
        NEW.refuses("set(0, -20)", INDEX, h -> h.set(0, -20));
        NEW.refuses("lay(0, 0)", INDEX, h -> h.lay(0, 0));
        NEW.refuses("door(0, 1)", INDEX, h -> h.door(0, 1));
        NEW.refuses("sell(0, 1)", INDEX, h -> h.sell(0, 1));
        NEW.refuses("call(0)", INDEX, h -> h.call(0));
    }

    /** The same for what is asked. */
    private static void nothingToAskFor() {
        NEW.refuses("ofMix(0, 0)", INDEX, h -> h.ofMix(0, 0));
        NEW.refuses("part(0, 0)", INDEX, h -> h.part(0, 0));
        NEW.refuses("ice(0, 0)", INDEX, h -> h.ice(0, 0));
        NEW.refuses("bars(0, 0, 5, 20)", INDEX, h -> h.bars(0, 0, 5, 20));
        NEW.refuses("ofBatch(0, 0)", INDEX, h -> h.ofBatch(0, 0));
        NEW.refuses("crystal(0)", INDEX, h -> h.crystal(0));
        NEW.refuses("temp(0)", INDEX, h -> h.temp(0));
        NEW.refuses("day(1, true)", ARGUMENT, h -> h.day(1, true));
        NEW.refuses("wouldBe(0, 1)", INDEX, h -> h.wouldBe(0, 1));
        NEW.refuses("wouldSpoil(0, 0)", INDEX, h -> h.wouldSpoil(0, 0));
    }

    /** HOURS go by in a house in which there is nothing. */
    private static void nothingInTheHours() {
        OverrunHouse h = new OverrunHouse();
        CHECK.same("nothing is lost", h.pass(48), 0);
        CHECK.same("hours", h.many(6), 48);
    }

    // ---- promise 2

    /** "fat, milk or sugar is below 0, or these are more than 1000 together": each one alone. */
    private static void fatMilkAndSugar() {
        NEW.range("fat", 0, 1000, ARGUMENT, (h, v) -> h.ingredient(v, 0, 0, 1, 0));
        NEW.range("milk", 0, 1000, ARGUMENT, (h, v) -> h.ingredient(0, v, 0, 1, 0));
        NEW.range("sugar", 0, 1000, ARGUMENT, (h, v) -> h.ingredient(0, 0, v, 1, 0));
    }

    /** "more than 1000 together": 1000 are let through, 1001 not, by whichever it is too much. */
    private static void theirSum() {
        int[][] just = {{334, 333, 333}, {999, 1, 0}, {999, 0, 1}, {0, 999, 1}, {1, 998, 1}};
        for (int[] row : just) {
            together(row[0], row[1], row[2], "");
            together(row[0] + 1, row[1], row[2], ARGUMENT);
            together(row[0], row[1] + 1, row[2], ARGUMENT);
            together(row[0], row[1], row[2] + 1, ARGUMENT);
        }
        together(MAX, MAX, 2, ARGUMENT);
        together(MAX, 2, MAX, ARGUMENT);
        together(2, MAX, MAX, ARGUMENT);
        together(MAX, 1, 0, ARGUMENT);
        together(0, MAX, 1, ARGUMENT);
        together(1, 0, MAX, ARGUMENT);
        together(MAX, MAX, MAX, ARGUMENT);
    }

    private static void together(int fat, int milk, int sugar, String due) {
        String call = "ingredient(" + fat + ", " + milk + ", " + sugar + ", ..)";
        if (due.isEmpty()) {
            NEW.answers(call, 0, h -> h.ingredient(fat, milk, sugar, 1, 0));
        } else {
            NEW.refuses(call, due, h -> h.ingredient(fat, milk, sugar, 1, 0));
        }
    }

    /** "below 0": one of them, although they are 0 to 1000 together. */
    private static void belowZeroWithASumInRange() {
        int[][] rows = {{-1, 1, 0}, {-1, 0, 1}, {1, -1, 0}, {0, -1, 1}, {1, 0, -1}, {0, 1, -1},
            {-1, 500, 501}, {500, -1, 501}, {501, 500, -1}, {MIN, MAX, 1}, {1, MIN, MAX}};
        for (int[] row : rows) {
            together(row[0], row[1], row[2], ARGUMENT);
        }
    }

    /** "cost is not 1 to 99". */
    private static void cost() {
        NEW.range("cost", 1, 99, ARGUMENT, (h, v) -> h.ingredient(0, 0, 0, v, 0));
    }

    /** "harms not 0 to 15". */
    private static void harms() {
        NEW.range("harms", 0, 15, ARGUMENT, (h, v) -> h.ingredient(0, 0, 0, 1, v));
    }

    /** "INGREDIENTS: at most 6, numbered from 0": "IllegalStateException if there are 6". */
    private static void atMostSixIngredients() {
        for (int i = 0; i < 6; i++) {
            int there = i;
            Edges some = new Edges(CHECK, there + " there", () -> Houses.ingredients(there));
            some.answers("one more", there, h -> h.ingredient(1, 2, 3, 4, 5));
        }
        SIX.refuses("one more", STATE, h -> h.ingredient(1, 2, 3, 4, 5));
        OverrunHouse h = Houses.ingredients(5);
        h.ingredient(1, 2, 3, 4, 5);
        h.mix(5, 10);
        CHECK.same("the sixth is kept: its cost", h.ofMix(0, 2), 40);
        CHECK.same("the sixth is kept: its harms", h.ofMix(0, 3), 5);
    }

    /** Of several exceptions the one that is named first: what is wrong goes ahead of no room. */
    private static void seventhIngredientAndWrong() {
        SIX.refuses("fat -1", ARGUMENT, h -> h.ingredient(-1, 0, 0, 1, 0));
        SIX.refuses("milk -1", ARGUMENT, h -> h.ingredient(0, -1, 0, 1, 0));
        SIX.refuses("sugar -1", ARGUMENT, h -> h.ingredient(0, 0, -1, 1, 0));
        SIX.refuses("1001 together", ARGUMENT, h -> h.ingredient(1000, 0, 1, 1, 0));
        SIX.refuses("cost 0", ARGUMENT, h -> h.ingredient(0, 0, 0, 0, 0));
        SIX.refuses("cost 100", ARGUMENT, h -> h.ingredient(0, 0, 0, 100, 0));
        SIX.refuses("harms -1", ARGUMENT, h -> h.ingredient(0, 0, 0, 1, -1));
        SIX.refuses("harms 16", ARGUMENT, h -> h.ingredient(0, 0, 0, 1, 16));
    }

    // ---- promise 3

    /** "IndexOutOfBoundsException if there is no such INGREDIENT". */
    private static void ingredientOfAMix() {
        ONE.range("mix of", 0, 0, INDEX, (h, v) -> h.mix(v, 1));
        SIX.range("mix of", 0, 5, INDEX, (h, v) -> h.mix(v, 1));
    }

    /** "IllegalArgumentException if kilos is not 1 to 500". */
    private static void kilosOfAMix() {
        ONE.range("kilos", 1, 500, ARGUMENT, (h, v) -> h.mix(0, v));
    }

    /** "MIXES: at most 5, numbered from 0": "IllegalStateException if there are 5". */
    private static void atMostFiveMixes() {
        for (int i = 0; i < 5; i++) {
            int there = i;
            Edges some = new Edges(CHECK, there + " there", () -> Houses.mixes(there));
            some.answers("one more", there, h -> h.mix(5, 500));
        }
        MIXED.refuses("one more", STATE, h -> h.mix(5, 500));
        OverrunHouse h = Houses.mixes(4);
        h.mix(5, 499);
        CHECK.same("the fifth is kept", h.ofMix(4, 0), 499);
        CHECK.same("the fourth, too", h.ofMix(3, 0), 100);
    }

    /** Of several exceptions the one that is named first. */
    private static void mixInItsOrder() {
        MIXED.refuses("no ingredient, kilos 0, no room", INDEX, h -> h.mix(6, 0));
        MIXED.refuses("no ingredient, no room", INDEX, h -> h.mix(-1, 1));
        MIXED.refuses("kilos 0, no room", ARGUMENT, h -> h.mix(0, 0));
        MIXED.refuses("kilos 501, no room", ARGUMENT, h -> h.mix(0, 501));
        SIX.refuses("no ingredient, kilos 501", INDEX, h -> h.mix(6, 501));
        SIX.refuses("no ingredient, kilos 0", INDEX, h -> h.mix(-1, 0));
    }

    /** "AGE is in hours (0 at first)", also if HOURS went by ahead of it; it is not PROVED. */
    private static void mixAtFirst() {
        OverrunHouse h = Houses.ingredients(1);
        h.pass(7);
        for (int mix = 0; mix < 5; mix++) {
            h.mix(0, 500);
            CHECK.same("age", h.ofMix(mix, 5), 0);
            CHECK.same("proved", h.ofMix(mix, 4), 0);
            CHECK.same("left", h.ofMix(mix, 1), 500);
            CHECK.same("batches", h.ofMix(mix, 8), 0);
            h.pass(1);
            CHECK.same("age, not heated", h.ofMix(mix, 5), 1);
            CHECK.same("age of the first", h.ofMix(0, 5), mix + 1);
        }
    }

    // ---- promise 4

    /** "IndexOutOfBoundsException if there is no such MIX, or INGREDIENT". */
    private static void numbersOfPut() {
        Edges single = new Edges(CHECK, "one mix", MixEdgesTest::single);
        single.range("put: mix", 0, 0, INDEX, (h, v) -> h.put(v, 0, 1));
        single.range("put: ingredient", 0, 0, INDEX, (h, v) -> h.put(0, v, 1));
        MIXED.range("put: mix", 0, 4, INDEX, (h, v) -> h.put(v, 0, 1));
        MIXED.range("put: ingredient", 0, 5, INDEX, (h, v) -> h.put(0, v, 1));
    }

    /** One ingredient, one mix of a kilogram of it. */
    private static OverrunHouse single() {
        OverrunHouse h = Houses.ingredients(1);
        h.mix(0, 1);
        return h;
    }

    /** "kilos is not 1 to 500"; 500 more are always too many, and so an exception of the state. */
    private static void kilosOfPut() {
        MIXED.answers("1", 101, h -> h.put(0, 0, 1));
        MIXED.refuses("0", ARGUMENT, h -> h.put(0, 0, 0));
        MIXED.refuses("-1", ARGUMENT, h -> h.put(0, 0, -1));
        MIXED.refuses("MIN", ARGUMENT, h -> h.put(0, 0, MIN));
        MIXED.refuses("500", STATE, h -> h.put(0, 0, 500));
        MIXED.refuses("501", ARGUMENT, h -> h.put(0, 0, 501));
        MIXED.refuses("MAX", ARGUMENT, h -> h.put(0, 0, MAX));
    }

    /** "IllegalStateException if KILOS would be more than 500". */
    private static void kilosTogether() {
        MIXED.answers("just 500", 500, h -> h.put(0, 1, 400));
        MIXED.refuses("501", STATE, h -> h.put(0, 1, 401));
        Edges single = new Edges(CHECK, "a kilogram", MixEdgesTest::single);
        single.answers("just 500", 500, h -> h.put(0, 0, 499));
        single.refuses("501", STATE, h -> h.put(0, 0, 500));
        OverrunHouse h = Houses.mixes(1);
        h.put(0, 1, 400);
        CHECK.noState("one more than 500", h, () -> h.put(0, 1, 1));
        CHECK.same("kilos", h.ofMix(0, 0), 500);
    }

    /** "or something was RUN of it": one batch is enough, of that mix, wherever the batch is. */
    private static void putBehindARun() {
        Edges run = new Edges(CHECK, "run", MixEdgesTest::runOfTheFirst);
        run.refuses("put into what was run", STATE, h -> h.put(0, 0, 1));
        run.answers("put into another", 101, h -> h.put(1, 0, 1));
        OverrunHouse h = runOfTheFirst();
        h.pass(1);
        CHECK.noState("its batch is lost", h, () -> h.put(0, 0, 1));
        OverrunHouse barred = Houses.ready(1);
        CHECK.same("barred", barred.run(0, 0, 101, 20), -14);
        CHECK.same("nothing was run", barred.put(0, 0, 1), 101);
    }

    private static OverrunHouse runOfTheFirst() {
        OverrunHouse h = Houses.ready(2);
        h.run(0, 0, 5, 20);
        return h;
    }

    /** Of several exceptions the one that is named first. */
    private static void putInItsOrder() {
        Edges run = new Edges(CHECK, "run", MixEdgesTest::runOfTheFirst);
        run.refuses("no mix, no ingredient", INDEX, h -> h.put(2, 6, 1));
        run.refuses("no mix, kilos 0", INDEX, h -> h.put(2, 0, 0));
        run.refuses("no mix, kilos 501", INDEX, h -> h.put(-1, 0, 501));
        run.refuses("no mix, 500 more", INDEX, h -> h.put(2, 0, 500));
        run.refuses("no ingredient, kilos 0", INDEX, h -> h.put(1, 6, 0));
        run.refuses("no ingredient, kilos 501", INDEX, h -> h.put(1, -1, 501));
        run.refuses("no ingredient, 500 more", INDEX, h -> h.put(1, 6, 500));
        run.refuses("no ingredient, was run", INDEX, h -> h.put(0, 6, 1));
        run.refuses("kilos 0, was run", ARGUMENT, h -> h.put(0, 0, 0));
        run.refuses("kilos 501, was run", ARGUMENT, h -> h.put(0, 0, 501));
        run.refuses("500 more, was run", STATE, h -> h.put(0, 0, 500));
    }

    /** "What is put in later makes it not PROVED (AGE stays)"; what is refused does not. */
    private static void putUnproves() {
        OverrunHouse h = Houses.ready(2);
        CHECK.noState("too much", h, () -> h.put(0, 0, 401));
        CHECK.same("still proved", h.ofMix(0, 4), 1);
        h.put(0, 0, 1);
        CHECK.same("not proved", h.ofMix(0, 4), 0);
        CHECK.same("age stays", h.ofMix(0, 5), 4);
        CHECK.same("the other one is proved still", h.ofMix(1, 4), 1);
        CHECK.same("barred", h.bars(0, 0, 5, 20), 1);
        CHECK.same("too short now", h.heat(0, 80, 14), false);
    }

    /** "HARMS are those of all that was put in": what was in it already is in it once. */
    private static void putTheSameAgain() {
        OverrunHouse h = new OverrunHouse();
        h.ingredient(10, 20, 30, 4, 5);
        h.ingredient(0, 0, 0, 1, 12);
        h.mix(0, 10);
        h.put(0, 0, 10);
        CHECK.same("harms", h.ofMix(0, 3), 5);
        CHECK.same("ingredients", h.ofMix(0, 7), 1);
        CHECK.same("cost", h.ofMix(0, 2), 80);
        CHECK.same("fat", h.part(0, 0), 1.0);
        h.put(0, 1, 20);
        h.put(0, 0, 1);
        h.put(0, 1, 1);
        CHECK.same("harms of both", h.ofMix(0, 3), 13);
        CHECK.same("both ingredients", h.ofMix(0, 7), 3);
        CHECK.same("kilos", h.ofMix(0, 0), 42);
        CHECK.same("cost of both", h.ofMix(0, 2), 21 * 4 + 21);
    }

    // ---- promise 5

    /** "IndexOutOfBoundsException if there is no such MIX". */
    private static void numberOfHeat() {
        ONE.range("heat: mix", 0, 0, INDEX, (h, v) -> h.heat(v, 80, 15) ? 1 : 0);
        MIXED.range("heat: mix", 0, 4, INDEX, (h, v) -> h.heat(v, 80, 15) ? 1 : 0);
    }

    /** "degrees is not 20 to 120". */
    private static void degrees() {
        MIXED.range("degrees", 20, 120, ARGUMENT, (h, v) -> h.heat(0, v, 15) ? 1 : 0);
    }

    /** "seconds not 1 to 9999". */
    private static void seconds() {
        MIXED.range("seconds", 1, 9999, ARGUMENT, (h, v) -> h.heat(0, 80, v) ? 1 : 0);
    }

    /** "at least 1800 for 65 to 69 degrees, 300 for 70 to 74, 60 for 75 to 79, 15 for 80 .." */
    private static void proof() {
        for (int i = 20; i <= 120; i++) {
            int to = i;
            int least = to < 65 ? 10000 : to < 70 ? 1800 : to < 75 ? 300 : to < 80 ? 60 : 15;
            String call = "heat(0, " + to + ", ";
            MIXED.answers(call + (least - 1) + ")", 0, h -> h.heat(0, to, least - 1) ? 1 : 0);
            if (to >= 65) {
                MIXED.answers(call + least + ")", 1, h -> h.heat(0, to, least) ? 1 : 0);
                MIXED.answers(call + "9999)", 1, h -> h.heat(0, to, 9999) ? 1 : 0);
            }
        }
    }

    /** "one that is PROVED ahead of that stays so". */
    private static void provedStaysSo() {
        OverrunHouse h = Houses.mixes(2);
        CHECK.same("too short", h.heat(0, 80, 14), false);
        CHECK.same("not proved", h.ofMix(0, 4), 0);
        CHECK.same("just long", h.heat(0, 80, 15), true);
        CHECK.same("proved", h.ofMix(0, 4), 1);
        CHECK.same("ahead of that", h.heat(0, 20, 1), true);
        CHECK.same("still proved", h.ofMix(0, 4), 1);
        CHECK.same("not the other one", h.ofMix(1, 4), 0);
    }

    /** "its AGE is 0 then, PROVED or not": of that mix alone, and by no call that is refused. */
    private static void ageByHeat() {
        OverrunHouse h = Houses.mixes(2);
        h.pass(9);
        CHECK.noArgument("121 degrees", h, () -> h.heat(0, 121, 15));
        CHECK.same("age stays", h.ofMix(0, 5), 9);
        h.heat(0, 20, 1);
        CHECK.same("0, not proved", h.ofMix(0, 5), 0);
        CHECK.same("not the other one", h.ofMix(1, 5), 9);
        h.pass(1);
        h.heat(0, 120, 9999);
        CHECK.same("0, proved", h.ofMix(0, 5), 0);
        h.pass(1);
        h.heat(0, 20, 1);
        CHECK.same("0, proved ahead", h.ofMix(0, 5), 0);
    }

    /** Of several exceptions the one that is named first. */
    private static void heatInItsOrder() {
        MIXED.refuses("no mix, 19 degrees", INDEX, h -> h.heat(5, 19, 15) ? 1 : 0);
        MIXED.refuses("no mix, 121 degrees", INDEX, h -> h.heat(-1, 121, 15) ? 1 : 0);
        MIXED.refuses("no mix, 0 seconds", INDEX, h -> h.heat(5, 80, 0) ? 1 : 0);
        MIXED.refuses("no mix, 10000 seconds", INDEX, h -> h.heat(-1, 80, 10000) ? 1 : 0);
        MIXED.refuses("19 degrees, 0 seconds", ARGUMENT, h -> h.heat(0, 19, 0) ? 1 : 0);
    }

    // ---- promise 16

    /** "if there is no such MIX", "if what is not 0 to 8". */
    private static void whatOfAMix() {
        ONE.range("ofMix: mix", 0, 0, INDEX, (h, v) -> h.ofMix(v, 0));
        MIXED.range("ofMix: mix", 0, 4, INDEX, (h, v) -> h.ofMix(v, 8));
        MIXED.range("ofMix: what", 0, 8, ARGUMENT, (h, v) -> h.ofMix(0, v));
        MIXED.refuses("no mix, what -1", INDEX, h -> h.ofMix(5, -1));
        MIXED.refuses("no mix, what 9", INDEX, h -> h.ofMix(-1, 9));
    }

    /** The smallest and the largest that there may be of each. */
    private static void ofMixAtItsEnds() {
        OverrunHouse h = new OverrunHouse();
        for (int i = 0; i < 4; i++) {
            h.ingredient(0, 0, 0, 99, 1 << i);
        }
        h.ingredient(0, 0, 0, 99, 0);
        h.ingredient(0, 0, 0, 1, 0);
        h.mix(5, 1);
        h.mix(0, 95);
        for (int i = 1; i < 4; i++) {
            h.put(1, i, 100);
        }
        h.put(1, 4, 104);
        h.put(1, 5, 1);
        int[] least = {1, 1, 1, 0, 0, 0, 0, 32, 0};
        int[] most = {500, 500, 499 * 99 + 1, 15, 0, 0, 0, 63, 0};
        for (int what = 0; what <= 8; what++) {
            CHECK.same("ofMix(0, " + what + ")", h.ofMix(0, what), least[what]);
            CHECK.same("ofMix(1, " + what + ")", h.ofMix(1, what), most[what]);
        }
        h.heat(1, 80, 15);
        h.pass(4);
        for (int i = 0; i < 12; i++) {
            h.run(0, 1, i < 11 ? 5 : 445, 20);
        }
        int[] empty = {500, 0, 499 * 99 + 1, 15, 1, 4, 0, 63, 12};
        for (int what = 0; what <= 8; what++) {
            CHECK.same("all was run: ofMix(1, " + what + ")", h.ofMix(1, what), empty[what]);
        }
    }

    /** "It is CREAM, if FAT is 10.0 or more, and MILK 8.0 or more": by a thousandth of 500. */
    private static void cream() {
        int[][] rows = {{100, 80, 1}, {99, 80, 0}, {100, 79, 0}, {99, 79, 0}, {101, 81, 1},
            {900, 80, 1}, {100, 900, 1}, {920, 79, 0}, {99, 900, 0}};
        for (int[] row : rows) {
            OverrunHouse h = new OverrunHouse();
            h.ingredient(100, 80, 0, 1, 0);
            h.ingredient(row[0], row[1], 0, 1, 0);
            h.mix(0, 499);
            h.put(0, 1, 1);
            CHECK.same("with a kilogram of " + row[0] + " and " + row[1], h.ofMix(0, 6), row[2]);
        }
        OverrunHouse h = new OverrunHouse();
        h.ingredient(100, 79, 0, 1, 0);
        h.ingredient(99, 80, 0, 1, 0);
        h.mix(0, 1);
        h.mix(1, 1);
        CHECK.same("milk 7.9", h.ofMix(0, 6), 0);
        CHECK.same("fat 9.9", h.ofMix(1, 6), 0);
    }

    // ---- promise 17

    /** "if there is no such MIX", "if what is not 0 to 3". */
    private static void whatOfAPart() {
        ONE.range("part: mix", 0, 0, INDEX, (h, v) -> h.part(v, 0));
        MIXED.range("part: mix", 0, 4, INDEX, (h, v) -> h.part(v, 3));
        MIXED.range("part: what", 0, 3, ARGUMENT, (h, v) -> h.part(0, v));
        MIXED.refuses("no mix, what -1", INDEX, h -> h.part(5, -1));
        MIXED.refuses("no mix, what 4", INDEX, h -> h.part(-1, 4));
    }

    /** All of one kind and nothing of the others; "Without SUGAR and MILK that is -0.0". */
    private static void partAtItsEnds() {
        double[][] due = {{100.0, 0.0, 0.0, -0.0}, {0.0, 100.0, 0.0, -3.125},
            {0.0, 0.0, 100.0, -6.25}, {0.0, 0.0, 0.0, -0.0}};
        OverrunHouse h = new OverrunHouse();
        h.ingredient(1000, 0, 0, 1, 0);
        h.ingredient(0, 1000, 0, 1, 0);
        h.ingredient(0, 0, 1000, 1, 0);
        h.ingredient(0, 0, 0, 1, 0);
        for (int mix = 0; mix < 4; mix++) {
            h.mix(mix, mix % 2 == 0 ? 500 : 1);
            for (int what = 0; what <= 3; what++) {
                CHECK.same("part(" + mix + ", " + what + ")", h.part(mix, what), due[mix][what]);
            }
        }
    }

    /** "as it was put in; nothing that is taken out changes them", not even all of it. */
    private static void partStays() {
        OverrunHouse h = new OverrunHouse();
        h.ingredient(331, 97, 173, 1, 0);
        h.ingredient(7, 13, 11, 1, 0);
        h.mix(0, 3);
        h.put(0, 1, 4);
        double fat = (double) (3 * 331 + 4 * 7) / 7 / 10.0;
        double milk = (double) (3 * 97 + 4 * 13) / 7 / 10.0;
        double sugar = (double) (3 * 173 + 4 * 11) / 7 / 10.0;
        double[] due = {fat, milk, sugar, -(sugar * 0.0625 + milk * 0.03125)};
        h.heat(0, 80, 15);
        h.pass(4);
        h.run(0, 0, 7, 20);
        CHECK.same("nothing is left", h.ofMix(0, 1), 0);
        for (int what = 0; what <= 3; what++) {
            CHECK.same("part(0, " + what + ")", h.part(0, what), due[what]);
        }
    }

    // ---- promise 18

    /** "if there is no such MIX", "if temp is not -40 to 20". */
    private static void temperatureOfIce() {
        ONE.range("ice: mix", 0, 0, INDEX, (h, v) -> h.ice(v, 0));
        MIXED.range("ice: mix", 0, 4, INDEX, (h, v) -> h.ice(v, -5));
        MIXED.range("ice: temp", -40, 20, ARGUMENT, (h, v) -> h.ice(0, v));
        MIXED.refuses("no mix, temp -41", INDEX, h -> h.ice(5, -41));
        MIXED.refuses("no mix, temp 21", INDEX, h -> h.ice(-1, 21));
    }

    /** "if t is not below where it FREEZES, 0.0; otherwise 1.0 - (where it FREEZES) / t". */
    private static void iceAtTheFreezingPoint() {
        OverrunHouse h = new OverrunHouse();
        h.ingredient(0, 320, 160, 1, 0);
        h.ingredient(0, 320, 159, 1, 0);
        h.mix(0, 10);
        h.mix(1, 10);
        CHECK.same("freezes", h.part(0, 3), -2.0);
        CHECK.same("freezes, the other", h.part(1, 3), -1.99375);
        CHECK.same("far above", h.ice(0, 20), 0.0);
        CHECK.same("at 0", h.ice(0, 0), 0.0);
        CHECK.same("one above", h.ice(0, -1), 0.0);
        CHECK.same("just there", h.ice(0, -2), 0.0);
        CHECK.same("just below", h.ice(1, -2), 1.0 - -1.99375 / -2.0);
        CHECK.same("one below", h.ice(0, -3), 1.0 - -2.0 / -3.0);
        CHECK.same("the coldest", h.ice(0, -40), 1.0 - -2.0 / -40.0);
    }

    /** "Without SUGAR and MILK that is -0.0: it is all ice below that." */
    private static void iceWithoutSugarAndMilk() {
        OverrunHouse h = new OverrunHouse();
        h.ingredient(1000, 0, 0, 1, 0);
        h.mix(0, 1);
        CHECK.same("above", h.ice(0, 1), 0.0);
        CHECK.same("just there", h.ice(0, 0), 0.0);
        CHECK.same("below", h.ice(0, -1), 1.0);
        CHECK.same("far below", h.ice(0, -40), 1.0);
    }
}
