/** Promises 9 to 15: each sentence that names an edge, by a test of its own. */
public final class ColdEdgesTest {
    private static final String INDEX = Edges.INDEX;
    private static final String ARGUMENT = Edges.ARGUMENT;
    private static final String STATE = Edges.STATE;
    private static final Check CHECK = new Check();
    private static final Edges NEW = new Edges(CHECK, "new", OverrunHouse::new);
    private static final Edges ONE = new Edges(CHECK, "one of each", Houses::one);
    private static final Edges HARD = new Edges(CHECK, "12 hard", () -> Houses.hard(12));
    private static final Edges STORED = new Edges(CHECK, "12 stored", () -> Houses.stored(12));
    private static final Edges PLACES = new Edges(CHECK, "in all places", Houses::places);

    public static void main(String[] args) {
        setOfAStore();
        atMostThreeStores();
        temperatureAtFirst();
        numberOfSet();
        setAnew();
        setInItsOrder();
        setStays();
        numbersOfLay();
        notToLay();
        layInItsOrder();
        laidWhereItIs();
        laidFromAnotherStore();
        allInOneStore();
        numberOfDoor();
        howOften();
        doorInItsOrder();
        doorNotAboveEight();
        doorAtEachTime();
        hours();
        manyHoursAreSingleOnes();
        softOnTheBeltIsLost();
        lostAtTheFreezingPoint();
        lostByTheTemperatureAhead();
        coarserAlsoIfLost();
        frozenAllThrough();
        coarserByWarmingToo();
        hoursPassByTheOthers();
        batchToSell();
        price();
        notToSell();
        coarseAboveFifty();
        sellInItsOrder();
        gainAtItsEnds();
        numberOfCall();
        callOfNothing();
        callTellsWhatIsSoldEver();
        callOfThatIngredientAlone();
        calledLater();
        calledIsNotSold();
        CHECK.end();
    }

    // ---- promise 9

    /** "IllegalArgumentException if set is not -30 to -10". */
    private static void setOfAStore() {
        NEW.range("store", -30, -10, ARGUMENT, (h, v) -> h.store(v));
        NEW.refuses("store(0)", ARGUMENT, h -> h.store(0));
        NEW.refuses("store(20)", ARGUMENT, h -> h.store(20));
    }

    /** "STORES: at most 3, numbered from 0"; what is wrong goes ahead of no room. */
    private static void atMostThreeStores() {
        OverrunHouse h = new OverrunHouse();
        for (int i = 0; i < 3; i++) {
            CHECK.same("stores", h.many(5), i);
            CHECK.same("its number", h.store(-10 - i), i);
        }
        for (int i = 0; i < 3; i++) {
            CHECK.same("its temp", h.temp(i), -10.0 - i);
        }
        HARD.refuses("4th", STATE, house -> house.store(-10));
        HARD.refuses("4th, -31", ARGUMENT, house -> house.store(-31));
        HARD.refuses("4th, -9", ARGUMENT, house -> house.store(-9));
    }

    /** "a TEMP (double; SET at first)", and it stays there, if no DOOR is opened. */
    private static void temperatureAtFirst() {
        for (int set = -30; set <= -10; set++) {
            OverrunHouse h = new OverrunHouse();
            h.store(set);
            CHECK.same("temp of " + set, h.temp(0), (double) set);
            h.pass(48);
            CHECK.same("temp of " + set + " behind 48 hours", h.temp(0), (double) set);
            CHECK.same("set of " + set, h.set(0, -10), set);
        }
    }

    // ---- promise 10

    /** "IndexOutOfBoundsException if there is no such STORE". */
    private static void numberOfSet() {
        ONE.range("set: store", 0, 0, INDEX, (h, v) -> h.set(v, -20));
        HARD.range("set: store", 0, 2, INDEX, (h, v) -> h.set(v, -20));
    }

    /** "IllegalArgumentException if set is not -30 to -10". */
    private static void setAnew() {
        HARD.range("set: set", -30, -10, ARGUMENT, (h, v) -> h.set(2, v));
    }

    /** Of several exceptions the one that is named first. */
    private static void setInItsOrder() {
        HARD.refuses("no store, -31", INDEX, h -> h.set(3, -31));
        HARD.refuses("no store, -9", INDEX, h -> h.set(-1, -9));
    }

    /** "Returns that before (whole)": TEMP may be anything; of that store alone. */
    private static void setStays() {
        OverrunHouse h = new OverrunHouse();
        h.store(-30);
        h.store(-10);
        CHECK.same("from -30", h.set(0, -10), -30);
        CHECK.same("temp stays", h.temp(0), -30.0);
        CHECK.same("the same again", h.set(0, -10), -10);
        h.pass(1);
        CHECK.same("temp", h.temp(0), -25.0);
        CHECK.noArgument("refused", h, () -> h.set(0, -31));
        CHECK.same("from -10", h.set(0, -30), -10);
        h.door(0, 20);
        CHECK.same("with the door open", h.set(0, -29), -30);
        CHECK.same("the other one", h.set(1, -30), -10);
    }

    // ---- promise 11

    /** "IndexOutOfBoundsException if there is no such BATCH, or STORE". */
    private static void numbersOfLay() {
        ONE.range("lay: batch", 0, 0, INDEX, (h, v) -> h.lay(v, 0));
        ONE.range("lay: store", 0, 0, INDEX, (h, v) -> h.lay(0, v));
        HARD.range("lay: batch", 0, 11, INDEX, (h, v) -> h.lay(v, 0));
        HARD.range("lay: store", 0, 2, INDEX, (h, v) -> h.lay(0, v));
        HARD.refuses("neither", INDEX, h -> h.lay(12, 3));
    }

    /** "IllegalStateException if it is SOLD, LOST, or not HARD"; all others can be laid. */
    private static void notToLay() {
        PLACES.refuses("sold", STATE, h -> h.lay(Houses.SOLD, 0));
        PLACES.refuses("lost, hard", STATE, h -> h.lay(Houses.LOST_HARD, 0));
        PLACES.refuses("lost, soft", STATE, h -> h.lay(Houses.LOST_SOFT, 0));
        PLACES.refuses("soft", STATE, h -> h.lay(Houses.SOFT, 0));
        PLACES.answers("hard on the belt", 4, h -> h.lay(Houses.HARD, 0));
        PLACES.answers("in another store", 1, h -> h.lay(Houses.GOOD, 1));
        PLACES.answers("coarse", 1, h -> h.lay(Houses.COARSE, 1));
        PLACES.answers("called", 1, h -> h.lay(Houses.CALLED, 1));
    }

    /** Of several exceptions the one that is named first. */
    private static void layInItsOrder() {
        PLACES.refuses("sold, no store", INDEX, h -> h.lay(Houses.SOLD, 2));
        PLACES.refuses("lost, no store", INDEX, h -> h.lay(Houses.LOST_HARD, -1));
        PLACES.refuses("soft, no store", INDEX, h -> h.lay(Houses.SOFT, 2));
        Edges none = new Edges(CHECK, "no store", () -> Houses.soft(1));
        none.refuses("soft, no store at all", INDEX, h -> h.lay(0, 0));
    }

    /** "or into that in which it is: nothing is changed". */
    private static void laidWhereItIs() {
        PLACES.keeps("again", 3, h -> h.lay(Houses.GOOD, 0));
        PLACES.keeps("again, coarse", 3, h -> h.lay(Houses.COARSE, 0));
        PLACES.keeps("again, called", 3, h -> h.lay(Houses.CALLED, 0));
    }

    /** "also from another one": it is in that one alone then, with its CRYSTAL. */
    private static void laidFromAnotherStore() {
        OverrunHouse h = Houses.stored(12);
        CHECK.same("five in the second", h.lay(0, 1), 5);
        CHECK.same("where", h.ofBatch(0, 3), 1);
        CHECK.same("crystal", h.crystal(0), 22.5);
        CHECK.same("three were left in the first", h.lay(1, 0), 4);
        CHECK.same("four in the second", h.lay(0, 1), 4);
    }

    /** "how many BATCHES are in it then": those of the belt, sold and lost ones are not. */
    private static void allInOneStore() {
        OverrunHouse h = Houses.hard(12);
        for (int i = 0; i < 12; i++) {
            CHECK.same("in it", h.lay(11 - i, 2), i + 1);
        }
        h.sell(5, 1);
        CHECK.same("one is sold", h.lay(0, 2), 11);
        CHECK.same("one in the other", h.lay(0, 0), 1);
        CHECK.same("one fewer", h.lay(1, 2), 10);
        h.door(2, 20);
        h.pass(1);
        CHECK.same("all others are lost", h.many(3), 10);
        CHECK.same("alone in it", h.lay(0, 2), 1);
    }

    // ---- promise 12

    /** "IndexOutOfBoundsException if there is no such STORE". */
    private static void numberOfDoor() {
        ONE.range("door: store", 0, 0, INDEX, (h, v) -> h.door(v, 1));
        HARD.range("door: store", 0, 2, INDEX, (h, v) -> h.door(v, 20));
    }

    /** "IllegalArgumentException if often is not 1 to 20". */
    private static void howOften() {
        HARD.range("often", 1, 20, ARGUMENT, (h, v) -> h.door(0, v));
    }

    /** Of several exceptions the one that is named first. */
    private static void doorInItsOrder() {
        HARD.refuses("no store, often 0", INDEX, h -> h.door(3, 0));
        HARD.refuses("no store, often 21", INDEX, h -> h.door(-1, 21));
    }

    /** "the smaller one of TEMP + 1.5 and 8.0": up to it, just there, beyond it, and there. */
    private static void doorNotAboveEight() {
        double[][] rows = {{-10, 11, 6.5}, {-10, 12, 8.0}, {-10, 13, 8.0}, {-11, 12, 7.0},
            {-11, 13, 8.0}, {-12, 13, 7.5}, {-12, 14, 8.0}, {-22, 19, 6.5}, {-22, 20, 8.0},
            {-23, 20, 7.0}, {-30, 20, 0.0}, {-10, 20, 8.0}};
        for (double[] row : rows) {
            OverrunHouse h = new OverrunHouse();
            h.store((int) row[0]);
            CHECK.same("from " + row[0] + ", " + row[1], h.door(0, (int) row[1]), row[2]);
            CHECK.same("temp", h.temp(0), row[2]);
        }
        OverrunHouse warm = new OverrunHouse();
        warm.store(-10);
        warm.door(0, 20);
        CHECK.same("once more", warm.door(0, 1), 8.0);
        CHECK.same("twenty times more", warm.door(0, 20), 8.0);
        warm.pass(1);
        CHECK.same("colder from there", warm.temp(0), 3.5);
    }

    /** "TEMP becomes each time": so often at once, or one by one; no HOUR goes by. */
    private static void doorAtEachTime() {
        for (int often = 1; often <= 20; often++) {
            OverrunHouse at = new OverrunHouse();
            OverrunHouse by = new OverrunHouse();
            at.store(-17);
            by.store(-17);
            at.pass(1);
            at.door(0, often);
            for (int i = 0; i < often; i++) {
                by.door(0, 1);
            }
            CHECK.same("often " + often, at.temp(0), by.temp(0));
            CHECK.same("no hour", by.many(6), 0);
        }
    }

    // ---- promise 13

    /** "IllegalArgumentException if hours is not 1 to 48". */
    private static void hours() {
        NEW.range("pass", 1, 48, ARGUMENT, (h, v) -> h.pass(v));
        PLACES.range("pass", 1, 48, ARGUMENT, (h, v) -> h.pass(v));
    }

    /** HOUR by HOUR: so many at once are as many single ones. */
    private static void manyHoursAreSingleOnes() {
        for (int hours = 1; hours <= 48; hours++) {
            OverrunHouse at = warmPlaces();
            OverrunHouse by = warmPlaces();
            int lost = at.pass(hours);
            int last = 0;
            for (int i = 0; i < hours; i++) {
                last = by.pass(1);
            }
            CHECK.same("lost behind " + hours, lost, last);
            CHECK.same("lost behind " + hours + ", asked", at.many(3), lost);
            CHECK.same("look behind " + hours, LastLook.of(at), LastLook.of(by));
        }
    }

    private static OverrunHouse warmPlaces() {
        OverrunHouse h = Houses.places();
        h.lay(Houses.HARD, 1);
        h.set(0, -30);
        h.door(0, 3);
        return h;
    }

    /** "BATCH by BATCH on the BELT that is not HARD: LOST", already by the first HOUR. */
    private static void softOnTheBeltIsLost() {
        OverrunHouse h = Houses.soft(12);
        h.harden(3, 10);
        h.harden(11, 90);
        CHECK.same("all the others", h.pass(1), 10);
        for (int i = 0; i < 12; i++) {
            boolean isHard = i == 3 || i == 11;
            CHECK.same("where " + i, h.ofBatch(i, 3), isHard ? -1 : 11);
            CHECK.same("hard " + i, h.ofBatch(i, 2), isHard ? 1 : 0);
        }
        CHECK.same("crystal of a lost one", h.crystal(0), 20.0);
        CHECK.same("hard ones never", h.pass(48), 10);
        CHECK.same("crystal of a hard one", h.crystal(3), 22.5);
    }

    /** "if TEMP ahead of the HOUR is not below where its MIX FREEZES, it is LOST". */
    private static void lostAtTheFreezingPoint() {
        int[] set = {-12, -11, -13, -10, -10};
        int[] often = {6, 5, 7, 4, 5};
        double[] temp = {-3.0, -3.5, -2.5, -4.0, -2.5};
        boolean[] isLost = {true, false, true, false, true};
        for (int i = 0; i < set.length; i++) {
            OverrunHouse h = Houses.kept(10, set[i]);
            CHECK.same("freezes", h.part(0, 3), -3.0);
            CHECK.same("temp", h.door(0, often[i]), temp[i]);
            CHECK.same("not lost by the door", h.ofBatch(0, 3), 0);
            CHECK.same("lost from " + temp[i], h.pass(1), isLost[i] ? 1 : 0);
            CHECK.same("where, from " + temp[i], h.ofBatch(0, 3), isLost[i] ? 11 : 0);
        }
    }

    /** The TEMP ahead of the HOUR loses it, however cold the HOUR makes the STORE. */
    private static void lostByTheTemperatureAhead() {
        OverrunHouse h = Houses.kept(10, -12);
        h.door(0, 6);
        h.set(0, -30);
        h.pass(1);
        CHECK.same("cold again", h.temp(0), -9.75);
        CHECK.same("lost all the same", h.ofBatch(0, 3), 11);
        OverrunHouse moved = Houses.kept(10, -12);
        moved.store(-12);
        moved.door(0, 6);
        moved.lay(0, 1);
        CHECK.same("laid away in time", moved.pass(1), 0);
    }

    /** "CRYSTAL is more by 24.0 * Math.abs of that (also of one that is LOST by it)", once. */
    private static void coarserAlsoIfLost() {
        OverrunHouse h = Houses.kept(10, -12);
        h.door(0, 6);
        h.pass(1);
        double due = 22.5 + 24.0 * (1.0 - -3.0 / -5.25);
        CHECK.same("lost", h.ofBatch(0, 3), 11);
        CHECK.same("crystal", h.crystal(0), due);
        h.pass(48);
        CHECK.same("no more of it", h.crystal(0), due);
        OverrunHouse warm = Houses.kept(10, -10);
        warm.door(0, 20);
        warm.pass(1);
        CHECK.same("from 8.0 to 3.5", warm.temp(0), 3.5);
        CHECK.same("lost there, too", warm.ofBatch(0, 3), 11);
        CHECK.same("without ice, not coarser", warm.crystal(0), 22.5);
    }

    /** "Without SUGAR and MILK": LOST at 0.0, which is not below -0.0; all ice below that. */
    private static void frozenAllThrough() {
        int[] set = {-30, -29, -21};
        int[] often = {20, 19, 13};
        double[] temp = {0.0, -0.5, -1.5};
        for (int i = 0; i < set.length; i++) {
            OverrunHouse h = new OverrunHouse();
            h.ingredient(1000, 0, 0, 1, 0);
            h.mix(0, 100);
            h.heat(0, 80, 15);
            h.pass(4);
            h.run(0, 0, 12, 50);
            h.harden(0, 10);
            h.store(set[i]);
            h.lay(0, 0);
            CHECK.same("temp", h.door(0, often[i]), temp[i]);
            CHECK.same("lost from " + temp[i], h.pass(1), i == 0 ? 1 : 0);
            CHECK.same("crystal from " + temp[i], h.crystal(0), i == 0 ? 46.5 : 22.5);
        }
    }

    /** "24.0 * Math.abs of that": as much by an HOUR that warms as by one that cools. */
    private static void coarserByWarmingToo() {
        OverrunHouse h = Houses.kept(10, -20);
        h.set(0, -10);
        h.pass(1);
        double more = 24.0 * (1.0 - -3.0 / -20.0 - (1.0 - -3.0 / -17.5));
        CHECK.same("temp", h.temp(0), -17.5);
        CHECK.same("would be", Houses.kept(10, -20).wouldBe(0, 1), 22.5);
        CHECK.same("warmer, coarser", h.crystal(0), 22.5 + more);
        double would = h.wouldBe(0, 48);
        CHECK.same("coarser still", would > 22.5 + more, true);
        h.pass(48);
        CHECK.same("as it would be", h.crystal(0), would);
        OverrunHouse same = Houses.kept(10, -20);
        same.pass(48);
        CHECK.same("no change of temp, not coarser", same.crystal(0), 22.5);
    }

    /** SOLD and LOST ones stay as they are; "HOURS ever are counted", MIX by MIX AGE is 1 more. */
    private static void hoursPassByTheOthers() {
        OverrunHouse h = Houses.places();
        int[] all = {Houses.SOLD, Houses.LOST_HARD, Houses.LOST_SOFT, Houses.HARD};
        double[] before = new double[all.length];
        int[] where = {10, 11, 11, -1};
        for (int i = 0; i < all.length; i++) {
            before[i] = h.crystal(all[i]);
        }
        int hours = h.many(6);
        h.door(0, 20);
        h.door(1, 20);
        h.pass(48);
        for (int i = 0; i < all.length; i++) {
            CHECK.same("crystal of " + all[i], h.crystal(all[i]), before[i]);
            CHECK.same("where " + all[i], h.ofBatch(all[i], 3), where[i]);
        }
        CHECK.same("hours ever", h.many(6), hours + 48);
        CHECK.same("age of 0", h.ofMix(0, 5), hours + 48);
        CHECK.same("age of 1", h.ofMix(1, 5), hours + 48);
    }

    // ---- promise 14

    /** "IndexOutOfBoundsException if there is no such BATCH". */
    private static void batchToSell() {
        Edges single = new Edges(CHECK, "one stored", () -> Houses.stored(1));
        single.range("sell", 0, 0, INDEX, (h, v) -> h.sell(v, 1));
        STORED.range("sell", 0, 11, INDEX, (h, v) -> h.sell(v, 1));
    }

    /** "IllegalArgumentException if price is not 1 to 99". */
    private static void price() {
        STORED.range("price", 1, 99, ARGUMENT, (h, v) -> h.sell(0, v));
        STORED.answers("for 1", 12, h -> h.sell(0, 1));
        STORED.answers("for 99", 12 * 99, h -> h.sell(0, 99));
    }

    /** "It can be SOLD, if it is in a STORE and not COARSE and not CALLED". */
    private static void notToSell() {
        PLACES.answers("in a store", 15 * 2 + 15, h -> h.sell(Houses.GOOD, 1));
        PLACES.refuses("soft on the belt", STATE, h -> h.sell(Houses.SOFT, 1));
        PLACES.refuses("hard on the belt", STATE, h -> h.sell(Houses.HARD, 1));
        PLACES.refuses("coarse", STATE, h -> h.sell(Houses.COARSE, 1));
        PLACES.refuses("called", STATE, h -> h.sell(Houses.CALLED, 1));
        PLACES.refuses("sold", STATE, h -> h.sell(Houses.SOLD, 1));
        PLACES.refuses("lost, hard", STATE, h -> h.sell(Houses.LOST_HARD, 1));
        PLACES.refuses("lost, soft", STATE, h -> h.sell(Houses.LOST_SOFT, 1));
    }

    /** "A BATCH is COARSE, if CRYSTAL is above 50.0": just 50.0, and the least above it. */
    private static void coarseAboveFifty() {
        for (int minutes = 83; minutes <= 85; minutes++) {
            OverrunHouse h = Houses.kept(minutes, -10);
            h.door(0, 4);
            h.set(0, -20);
            h.pass(1);
            CHECK.same("crystal", h.crystal(0), 50.0 + (minutes - 84) * 0.25);
            CHECK.same("coarse at " + h.crystal(0), h.ofBatch(0, 4), minutes > 84 ? 1 : 0);
            if (minutes > 84) {
                CHECK.noState("sell", h, () -> h.sell(0, 1));
            } else {
                CHECK.same("sell at " + h.crystal(0), h.sell(0, 1), 15);
            }
        }
    }

    /** Of several exceptions the one that is named first. */
    private static void sellInItsOrder() {
        PLACES.refuses("no batch, price 0", INDEX, h -> h.sell(8, 0));
        PLACES.refuses("no batch, price 100", INDEX, h -> h.sell(-1, 100));
        int[] not = {Houses.SOFT, Houses.HARD, Houses.COARSE, Houses.CALLED, Houses.SOLD,
            Houses.LOST_HARD, Houses.LOST_SOFT};
        for (int batch : not) {
            PLACES.refuses(batch + ", price 0", ARGUMENT, h -> h.sell(batch, 0));
            PLACES.refuses(batch + ", price 100", ARGUMENT, h -> h.sell(batch, 100));
        }
    }

    /** "GAIN is more by LITRES times a PRICE": of the fewest and of the most that there may be. */
    private static void gainAtItsEnds() {
        OverrunHouse h = new OverrunHouse();
        h.ingredient(0, 80, 160, 1, 0);
        int due = 0;
        h.store(-30);
        for (int mix = 0; mix < 5; mix++) {
            h.mix(0, 500);
            h.heat(mix, 80, 15);
        }
        h.pass(4);
        for (int i = 0; i < 5; i++) {
            h.run(0, i, i == 0 ? 5 : 500, i == 0 ? 20 : 140);
            h.harden(i, 10);
            h.lay(i, 0);
            due += i == 0 ? 3 : 1195 * 99;
            CHECK.same("gain", h.sell(i, i == 0 ? 1 : 99), due);
        }
        CHECK.same("gain ever", h.many(7), due);
        CHECK.same("sold", h.many(4), 5);
        CHECK.same("call: all that is sold", h.call(0), 3 + 4 * 1195);
    }

    // ---- promise 15

    /** "IndexOutOfBoundsException if there is no such INGREDIENT". */
    private static void numberOfCall() {
        ONE.range("call", 0, 0, INDEX, (h, v) -> h.call(v));
        STORED.range("call", 0, 5, INDEX, (h, v) -> h.call(v));
    }

    /** Nothing is made of it yet, or nothing is SOLD yet: no LITRES. */
    private static void callOfNothing() {
        OverrunHouse h = Houses.ingredients(6);
        for (int i = 0; i < 6; i++) {
            CHECK.same("called ahead", h.many(11), (1 << i) - 1);
            CHECK.same("call(" + i + ")", h.call(i), 0);
        }
        CHECK.same("all are called", h.many(11), 63);
        CHECK.same("again", h.call(5), 0);
        CHECK.same("all are called still", h.many(11), 63);
        PLACES.answers("stored alone", 0, house -> house.call(1));
        PLACES.answers("one is sold, of all in each place", 15, house -> house.call(0));
        OverrunHouse lost = Houses.soft(12);
        lost.pass(1);
        CHECK.same("lost ones are not sold", lost.call(0), 0);
    }

    /** "what is SOLD of them (now or ever) is told": each time anew, with what was sold long ago. */
    private static void callTellsWhatIsSoldEver() {
        OverrunHouse h = Houses.stored(12);
        h.sell(0, 1);
        h.pass(48);
        h.sell(5, 1);
        CHECK.same("two of mix 0", h.call(0), 24);
        CHECK.same("again", h.call(0), 24);
        h.sell(1, 1);
        CHECK.same("not of mix 1", h.call(0), 24);
        CHECK.same("mix 1", h.call(1), 12);
        CHECK.same("sold ones stay sold", h.many(4), 3);
        CHECK.same("gain stays", h.many(7), 36);
    }

    /** "of all BATCHES that are CALLED by it": not of those that another one calls. */
    private static void callOfThatIngredientAlone() {
        OverrunHouse h = new OverrunHouse();
        h.ingredient(0, 80, 160, 1, 0);
        h.ingredient(0, 80, 160, 1, 0);
        h.ingredient(0, 80, 160, 1, 0);
        h.mix(0, 50);
        h.put(0, 1, 50);
        h.mix(1, 100);
        h.heat(0, 80, 15);
        h.heat(1, 80, 15);
        h.pass(4);
        h.store(-20);
        for (int i = 0; i < 2; i++) {
            h.run(0, i, 12 + 10 * i, 100);
            h.harden(i, 10);
            h.lay(i, 0);
            h.sell(i, 1);
        }
        CHECK.same("by 2: none", h.call(2), 0);
        CHECK.same("by 0: the first", h.call(0), 20);
        CHECK.same("called", h.ofBatch(0, 5), 1);
        CHECK.same("not called", h.ofBatch(1, 5), 0);
        CHECK.same("by 1: both", h.call(1), 60);
        CHECK.same("both are called", h.ofBatch(1, 5), 1);
        CHECK.same("by 2: none still", h.call(2), 0);
    }

    /** "into which it was put (whenever)", "also those that are made later". */
    private static void calledLater() {
        OverrunHouse h = Houses.ingredients(2);
        h.mix(0, 100);
        h.call(1);
        h.put(0, 1, 1);
        h.mix(0, 100);
        h.mix(1, 100);
        for (int i = 0; i < 3; i++) {
            h.heat(i, 80, 15);
        }
        h.pass(4);
        for (int i = 0; i < 3; i++) {
            h.wash(0);
            h.run(0, i, 12, 50);
        }
        CHECK.same("put in behind the call", h.ofBatch(0, 5), 1);
        CHECK.same("without it", h.ofBatch(1, 5), 0);
        CHECK.same("begun behind the call", h.ofBatch(2, 5), 1);
        h.call(0);
        CHECK.same("called, on the belt", h.ofBatch(1, 5), 1);
        h.run(1, 1, 12, 50);
        CHECK.same("a batch that is made later", h.ofBatch(3, 5), 1);
    }

    /** "and not CALLED": the same BATCH, ahead of the call and behind it. */
    private static void calledIsNotSold() {
        STORED.answers("ahead of it", 12, h -> h.sell(2, 1));
        Edges called = new Edges(CHECK, "called", ColdEdgesTest::calledTwo);
        called.refuses("behind it", STATE, h -> h.sell(2, 1));
        called.refuses("another of that mix", STATE, h -> h.sell(7, 1));
        called.answers("of another mix", 12, h -> h.sell(3, 1));
    }

    private static OverrunHouse calledTwo() {
        OverrunHouse h = Houses.stored(12);
        h.call(2);
        return h;
    }
}
