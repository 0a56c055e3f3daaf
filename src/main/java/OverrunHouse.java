/** Ice cream from the mix to the shop; what each call promises is told in ../shared/DOC.md. */
public final class OverrunHouse {
    private static final int NONE = -1;
    private static final int SOLD = 10;
    private static final int LOST = 11;

    private static final int MOST_INGREDIENTS = 6;
    private static final int MOST_MIXES = 5;
    private static final int MOST_BATCHES = 12;
    private static final int MOST_STORES = 3;
    private static final int BARRELS = 2;
    private static final int MOST_KILOS = 500;

    private static final int COARSE_ABOVE = 50;
    private static final int WARMEST = 8;

    /** A day starts with a washed barrel: a row of its own stands for "no mix ran ahead". */
    private static final int NO_FORMER = MOST_MIXES;
    private static final int FORMERS = MOST_MIXES + 1;

    private final Ingredient[] ingredients = new Ingredient[MOST_INGREDIENTS];
    private final Mix[] mixes = new Mix[MOST_MIXES];
    private final Batch[] batches = new Batch[MOST_BATCHES];
    private final Store[] stores = new Store[MOST_STORES];
    private final int[] rests = new int[BARRELS];
    private int ingredientCount = 0;
    private int mixCount = 0;
    private int batchCount = 0;
    private int storeCount = 0;
    private int hoursEver = 0;
    private int gainEver = 0;
    private int washesEver = 0;
    private int calledSet = 0;

    /** Kept for use again by every day(): no call makes an array of its own. */
    private final int[] fewestWashes = new int[FORMERS << MOST_MIXES];

    private static final class Ingredient {
        private int fat = 0;
        private int milk = 0;
        private int sugar = 0;
        private int cost = 0;
        private int harms = 0;
    }

    private static final class Mix {
        private int kilos = 0;
        private int left = 0;
        private int fatSum = 0;
        private int milkSum = 0;
        private int sugarSum = 0;
        private int cost = 0;
        private int harms = 0;
        private int ingredientSet = 0;
        private int age = 0;
        private int batchesOfIt = 0;
        private boolean isProved = false;
        private double freezesAt = 0.0;

        private void add(Ingredient what, int number, int weight) {
            kilos += weight;
            left += weight;
            fatSum += weight * what.fat;
            milkSum += weight * what.milk;
            sugarSum += weight * what.sugar;
            cost += weight * what.cost;
            harms |= what.harms;
            ingredientSet |= 1 << number;
            isProved = false;
            freezesAt = -(percent(sugarSum) * 0.0625 + percent(milkSum) * 0.03125);
        }

        private double percent(int sum) {
            return kilos > 0 ? (double) sum / kilos / 10.0 : 0.0;
        }

        /** No divisor is 0 here: what is below the freezing point is below 0. */
        private double iceShare(double degrees) {
            return degrees < freezesAt ? 1.0 - freezesAt / degrees : 0.0;
        }

        private boolean isCream() {
            return percent(fatSum) >= 10.0 && percent(milkSum) >= 8.0;
        }

        private double coarsening(double before, double now) {
            double change = iceShare(before) - iceShare(now);
            return 24.0 * (change < 0.0 ? -change : change);
        }

        private boolean meltsAt(double degrees) {
            return degrees >= freezesAt;
        }
    }

    private static final class Batch {
        private int mix = 0;
        private int litres = 0;
        private int place = NONE;
        private boolean isHard = false;
        private double crystal = 0.0;

        private boolean isCoarse() {
            return crystal > COARSE_ABOVE;
        }

        private boolean isStored() {
            return place >= 0 && place < MOST_STORES;
        }
    }

    private static final class Store {
        private int wanted = 0;
        private double degrees = 0.0;

        private double hourLater(double before) {
            return before + (wanted - before) * 0.25;
        }
    }

    public OverrunHouse() {
        for (int i = 0; i < MOST_INGREDIENTS; i++) {
            ingredients[i] = new Ingredient();
        }
        for (int i = 0; i < MOST_MIXES; i++) {
            mixes[i] = new Mix();
        }
        for (int i = 0; i < MOST_BATCHES; i++) {
            batches[i] = new Batch();
        }
        for (int i = 0; i < MOST_STORES; i++) {
            stores[i] = new Store();
        }
    }

    // ---- mixes

    public int ingredient(int fat, int milk, int sugar, int cost, int harms)
            throws IllegalArgumentException, IllegalStateException {
        checkRange(fat, 0, 1000);
        checkRange(milk, 0, 1000 - fat);
        checkRange(sugar, 0, 1000 - fat - milk);
        checkRange(cost, 1, 99);
        checkRange(harms, 0, 15);
        checkRoom(ingredientCount, MOST_INGREDIENTS);
        Ingredient told = ingredients[ingredientCount];
        told.fat = fat;
        told.milk = milk;
        told.sugar = sugar;
        told.cost = cost;
        told.harms = harms;
        ingredientCount++;
        return ingredientCount - 1;
    }

    public int mix(int ingredient, int kilos)
            throws IndexOutOfBoundsException, IllegalArgumentException, IllegalStateException {
        checkNumber(ingredient, ingredientCount);
        checkRange(kilos, 1, MOST_KILOS);
        checkRoom(mixCount, MOST_MIXES);
        mixes[mixCount].add(ingredients[ingredient], ingredient, kilos);
        mixCount++;
        return mixCount - 1;
    }

    public int put(int mix, int ingredient, int kilos)
            throws IndexOutOfBoundsException, IllegalArgumentException, IllegalStateException {
        checkNumber(mix, mixCount);
        checkNumber(ingredient, ingredientCount);
        checkRange(kilos, 1, MOST_KILOS);
        Mix into = mixes[mix];
        if (into.kilos + kilos > MOST_KILOS || into.batchesOfIt > 0) {
            throw new IllegalStateException("the mix takes no more");
        }
        into.add(ingredients[ingredient], ingredient, kilos);
        return into.kilos;
    }

    public boolean heat(int mix, int degrees, int seconds)
            throws IndexOutOfBoundsException, IllegalArgumentException {
        checkNumber(mix, mixCount);
        checkRange(degrees, 20, 120);
        checkRange(seconds, 1, 9999);
        Mix heated = mixes[mix];
        heated.isProved = heated.isProved || proves(degrees, seconds);
        heated.age = 0;
        return heated.isProved;
    }

    private static boolean proves(int degrees, int seconds) {
        if (degrees >= 80) {
            return seconds >= 15;
        }
        if (degrees >= 75) {
            return seconds >= 60;
        }
        if (degrees >= 70) {
            return seconds >= 300;
        }
        return degrees >= 65 && seconds >= 1800;
    }

    // ---- barrels

    public int run(int barrel, int mix, int kilos, int air)
            throws IndexOutOfBoundsException, IllegalArgumentException {
        int bar = bars(barrel, mix, kilos, air);
        if (bar != 0) {
            return -10 - bar;
        }
        Mix used = mixes[mix];
        used.left -= kilos;
        used.batchesOfIt++;
        rests[barrel] = used.harms;
        Batch made = batches[batchCount];
        made.mix = mix;
        made.litres = (kilos - 2) * (100 + air) / 100;
        made.crystal = 20.0;
        batchCount++;
        return batchCount - 1;
    }

    public int wash(int barrel) throws IndexOutOfBoundsException {
        checkNumber(barrel, BARRELS);
        int before = rests[barrel];
        rests[barrel] = 0;
        washesEver++;
        return before;
    }

    public double harden(int batch, int minutes)
            throws IndexOutOfBoundsException, IllegalArgumentException, IllegalStateException {
        checkNumber(batch, batchCount);
        checkRange(minutes, 10, 90);
        Batch soft = batches[batch];
        if (soft.place != NONE || soft.isHard) {
            throw new IllegalStateException("the batch is not soft on the belt");
        }
        soft.crystal = soft.crystal + minutes * 0.25;
        soft.isHard = true;
        return soft.crystal;
    }

    // ---- cold

    public int store(int set) throws IllegalArgumentException, IllegalStateException {
        checkRange(set, -30, -10);
        checkRoom(storeCount, MOST_STORES);
        stores[storeCount].wanted = set;
        stores[storeCount].degrees = set;
        storeCount++;
        return storeCount - 1;
    }

    public int set(int store, int set) throws IndexOutOfBoundsException, IllegalArgumentException {
        checkNumber(store, storeCount);
        checkRange(set, -30, -10);
        int before = stores[store].wanted;
        stores[store].wanted = set;
        return before;
    }

    public int lay(int batch, int store) throws IndexOutOfBoundsException, IllegalStateException {
        checkNumber(batch, batchCount);
        checkNumber(store, storeCount);
        Batch laid = batches[batch];
        if (laid.place == SOLD || laid.place == LOST || !laid.isHard) {
            throw new IllegalStateException("the batch can not be laid");
        }
        laid.place = store;
        return countAt(store);
    }

    public double door(int store, int often)
            throws IndexOutOfBoundsException, IllegalArgumentException {
        checkNumber(store, storeCount);
        checkRange(often, 1, 20);
        stores[store].degrees = opened(stores[store].degrees, often);
        return stores[store].degrees;
    }

    private static double opened(double degrees, int often) {
        double warmed = degrees;
        for (int i = 0; i < often; i++) {
            double warmer = warmed + 1.5;
            warmed = warmer < WARMEST ? warmer : WARMEST;
        }
        return warmed;
    }

    public int pass(int hours) throws IllegalArgumentException {
        checkRange(hours, 1, 48);
        for (int i = 0; i < hours; i++) {
            passHour();
        }
        return countAt(LOST);
    }

    private void passHour() {
        for (int i = 0; i < mixCount; i++) {
            mixes[i].age++;
        }
        for (int i = 0; i < batchCount; i++) {
            if (batches[i].place == NONE && !batches[i].isHard) {
                batches[i].place = LOST;
            }
        }
        for (int i = 0; i < storeCount; i++) {
            passHourIn(i);
        }
        hoursEver++;
    }

    private void passHourIn(int store) {
        double before = stores[store].degrees;
        double now = stores[store].hourLater(before);
        stores[store].degrees = now;
        for (int i = 0; i < batchCount; i++) {
            Batch kept = batches[i];
            if (kept.place == store) {
                Mix of = mixes[kept.mix];
                kept.crystal = kept.crystal + of.coarsening(before, now);
                if (of.meltsAt(before)) {
                    kept.place = LOST;
                }
            }
        }
    }

    public int sell(int batch, int price)
            throws IndexOutOfBoundsException, IllegalArgumentException, IllegalStateException {
        checkNumber(batch, batchCount);
        checkRange(price, 1, 99);
        Batch sold = batches[batch];
        if (!sold.isStored() || sold.isCoarse() || isCalled(sold)) {
            throw new IllegalStateException("the batch can not be sold");
        }
        sold.place = SOLD;
        gainEver += sold.litres * price;
        return gainEver;
    }

    public int call(int ingredient) throws IndexOutOfBoundsException {
        checkNumber(ingredient, ingredientCount);
        int only = 1 << ingredient;
        calledSet |= only;
        int litres = 0;
        for (int i = 0; i < batchCount; i++) {
            if (batches[i].place == SOLD && holdsAnyOf(batches[i], only)) {
                litres += batches[i].litres;
            }
        }
        return litres;
    }

    private boolean isCalled(Batch batch) {
        return holdsAnyOf(batch, calledSet);
    }

    private boolean holdsAnyOf(Batch batch, int ingredientSet) {
        return (mixes[batch.mix].ingredientSet & ingredientSet) != 0;
    }

    // ---- what one asks

    public int ofMix(int mix, int what) throws IndexOutOfBoundsException, IllegalArgumentException {
        checkNumber(mix, mixCount);
        checkRange(what, 0, 8);
        Mix asked = mixes[mix];
        switch (what) {
            case 0: return asked.kilos;
            case 1: return asked.left;
            case 2: return asked.cost;
            case 3: return asked.harms;
            case 4: return asked.isProved ? 1 : 0;
            case 5: return asked.age;
            case 6: return asked.isCream() ? 1 : 0;
            case 7: return asked.ingredientSet;
            default: return asked.batchesOfIt;
        }
    }

    public double part(int mix, int what)
            throws IndexOutOfBoundsException, IllegalArgumentException {
        checkNumber(mix, mixCount);
        checkRange(what, 0, 3);
        Mix asked = mixes[mix];
        switch (what) {
            case 0: return asked.percent(asked.fatSum);
            case 1: return asked.percent(asked.milkSum);
            case 2: return asked.percent(asked.sugarSum);
            default: return asked.freezesAt;
        }
    }

    public double ice(int mix, int temp)
            throws IndexOutOfBoundsException, IllegalArgumentException {
        checkNumber(mix, mixCount);
        checkRange(temp, -40, 20);
        return mixes[mix].iceShare(temp);
    }

    public int bars(int barrel, int mix, int kilos, int air)
            throws IndexOutOfBoundsException, IllegalArgumentException {
        checkNumber(barrel, BARRELS);
        checkNumber(mix, mixCount);
        checkRange(kilos, 5, MOST_KILOS);
        checkRange(air, 20, 140);
        Mix used = mixes[mix];
        if (!used.isProved) {
            return 1;
        }
        if (used.age < 4) {
            return 2;
        }
        if (used.age > 72) {
            return 3;
        }
        if (used.left < kilos) {
            return 4;
        }
        if ((rests[barrel] & ~used.harms) != 0) {
            return 5;
        }
        if (air > 100 && used.isCream()) {
            return 6;
        }
        return batchCount >= MOST_BATCHES ? 7 : 0;
    }

    public int ofBatch(int batch, int what)
            throws IndexOutOfBoundsException, IllegalArgumentException {
        checkNumber(batch, batchCount);
        checkRange(what, 0, 5);
        Batch asked = batches[batch];
        switch (what) {
            case 0: return asked.mix;
            case 1: return asked.litres;
            case 2: return asked.isHard ? 1 : 0;
            case 3: return asked.place;
            case 4: return asked.isCoarse() ? 1 : 0;
            default: return isCalled(asked) ? 1 : 0;
        }
    }

    public double crystal(int batch) throws IndexOutOfBoundsException {
        checkNumber(batch, batchCount);
        return batches[batch].crystal;
    }

    public double temp(int store) throws IndexOutOfBoundsException {
        checkNumber(store, storeCount);
        return stores[store].degrees;
    }

    public int many(int what) throws IllegalArgumentException {
        checkRange(what, 0, 11);
        switch (what) {
            case 0: return ingredientCount;
            case 1: return mixCount;
            case 2: return batchCount;
            case 3: return countAt(LOST);
            case 4: return countAt(SOLD);
            case 5: return storeCount;
            case 6: return hoursEver;
            case 7: return gainEver;
            case 8: return rests[0];
            case 9: return rests[1];
            case 10: return washesEver;
            default: return calledSet;
        }
    }

    // ---- what would be (nothing is changed)

    public int day(int mixes, boolean isOrder) throws IllegalArgumentException {
        checkRange(mixes, 0, (1 << mixCount) - 1);
        reckonWashes();
        return isOrder ? bestOrder(mixes) : fewestWashes[cell(NO_FORMER, mixes)];
    }

    /** A set less one of its mixes is a smaller number, and so reckoned ahead of the whole. */
    private void reckonWashes() {
        for (int rest = 1; rest < 1 << mixCount; rest++) {
            for (int former = 0; former < FORMERS; former++) {
                if ((rest & 1 << former) == 0) {
                    int next = bestNext(former, rest);
                    fewestWashes[cell(former, rest)] = washesBy(former, next, rest);
                }
            }
        }
    }

    private int bestOrder(int mixSet) {
        int order = 0;
        int former = NO_FORMER;
        int rest = mixSet;
        for (int i = 0; i < MOST_MIXES && rest != 0; i++) {
            int next = bestNext(former, rest);
            order = order * 10 + next + 1;
            rest = without(next, rest);
            former = next;
        }
        return order;
    }

    /** The first of the best ones makes the smallest number: all orders have as many digits. */
    private int bestNext(int former, int rest) {
        int best = 0;
        int fewest = MOST_MIXES;
        for (int next = 0; next < mixCount; next++) {
            int washes = (rest & 1 << next) != 0 ? washesBy(former, next, rest) : MOST_MIXES;
            if (washes < fewest) {
                best = next;
                fewest = washes;
            }
        }
        return best;
    }

    private int washesBy(int former, int next, int rest) {
        int later = fewestWashes[cell(next, without(next, rest))];
        return needsWash(former, next) ? later + 1 : later;
    }

    private boolean needsWash(int former, int next) {
        return former != NO_FORMER && (mixes[former].harms & ~mixes[next].harms) != 0;
    }

    private static int without(int mix, int mixSet) {
        return mixSet & ~(1 << mix);
    }

    private static int cell(int former, int rest) {
        return rest * FORMERS + former;
    }

    public double wouldBe(int batch, int hours)
            throws IndexOutOfBoundsException, IllegalArgumentException {
        checkNumber(batch, batchCount);
        checkRange(hours, 1, 48);
        Batch asked = batches[batch];
        if (asked.isStored()) {
            return crystalLater(asked, stores[asked.place].degrees, hours);
        }
        return asked.place == NONE && asked.isHard ? asked.crystal : -1.0;
    }

    public int wouldSpoil(int store, int often)
            throws IndexOutOfBoundsException, IllegalArgumentException {
        checkNumber(store, storeCount);
        checkRange(often, 0, 20);
        double degrees = opened(stores[store].degrees, often);
        int spoiled = 0;
        for (int i = 0; i < batchCount; i++) {
            if (batches[i].place == store && !batches[i].isCoarse()) {
                double later = crystalLater(batches[i], degrees, 24);
                if (later < 0.0 || later > COARSE_ABOVE) {
                    spoiled++;
                }
            }
        }
        return spoiled;
    }

    /** Of a batch in a store that has these degrees now; -1.0 if it would be lost. */
    private double crystalLater(Batch kept, double degrees, int hours) {
        Mix of = mixes[kept.mix];
        Store in = stores[kept.place];
        double crystal = kept.crystal;
        double before = degrees;
        for (int i = 0; i < hours; i++) {
            if (of.meltsAt(before)) {
                return -1.0;
            }
            double now = in.hourLater(before);
            crystal = crystal + of.coarsening(before, now);
            before = now;
        }
        return crystal;
    }

    public long digest() {
        long d = 9606;
        for (int what = 0; what <= 11; what++) {
            d = d * 31 + many(what);
        }
        for (int i = 0; i < mixCount; i++) {
            for (int what = 0; what <= 8; what++) {
                d = d * 31 + ofMix(i, what);
            }
            d = d * 31 + bars(0, i, 20, 80);
        }
        for (int i = 0; i < batchCount; i++) {
            for (int what = 0; what <= 5; what++) {
                d = d * 31 + ofBatch(i, what);
            }
            d = d * 31 + (long) (batches[i].crystal * 8);
        }
        for (int i = 0; i < storeCount; i++) {
            d = d * 31 + (long) (stores[i].degrees * 8);
            d = d * 31 + wouldSpoil(i, 0);
        }
        int all = (1 << mixCount) - 1;
        d = d * 31 + day(all, true);
        return d * 31 + day(all, false);
    }

    private int countAt(int place) {
        int count = 0;
        for (int i = 0; i < batchCount; i++) {
            if (batches[i].place == place) {
                count++;
            }
        }
        return count;
    }

    private static void checkNumber(int number, int count) {
        if (number < 0 || number >= count) {
            throw new IndexOutOfBoundsException("there is no such number");
        }
    }

    private static void checkRange(int value, int low, int high) {
        if (value < low || value > high) {
            throw new IllegalArgumentException("the value is out of its range");
        }
    }

    private static void checkRoom(int count, int most) {
        if (count >= most) {
            throw new IllegalStateException("there are as many as there may be");
        }
    }
}
