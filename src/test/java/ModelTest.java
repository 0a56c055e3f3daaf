import java.util.ArrayList;
import java.util.List;

/**
 * Long runs of calls against a second reading of the document, held as plainly as can be: what
 * would be is found by copying the whole house and letting its hours pass, a day by trying all
 * orders. The calls come from a fixed row of numbers, so that each run is the same again.
 */
public final class ModelTest {
    private static final Check CHECK = new Check();

    static final class Mix {
        List<int[]> in = new ArrayList<>();
        int gone = 0;
        int runs = 0;
        boolean proved = false;
        int age = 0;
    }

    static final class Batch {
        int mix;
        int litres;
        boolean hard = false;
        String where = "belt";
        int store = -1;
        double crystal = 20.0;
    }

    static final class Store {
        double set;
        double temp;
    }

    static final class Model {
        List<int[]> ingredients = new ArrayList<>();
        List<Mix> mixes = new ArrayList<>();
        List<Batch> batches = new ArrayList<>();
        List<Store> stores = new ArrayList<>();
        int[] rests = {0, 0};
        int hours = 0;
        int gain = 0;
        int washes = 0;
        boolean[] called = new boolean[6];

        Model copy() {
            Model m = new Model();
            m.ingredients.addAll(ingredients);
            for (Mix x : mixes) {
                Mix y = new Mix();
                y.in.addAll(x.in);
                y.gone = x.gone;
                y.runs = x.runs;
                y.proved = x.proved;
                y.age = x.age;
                m.mixes.add(y);
            }
            for (Batch x : batches) {
                Batch y = new Batch();
                y.mix = x.mix;
                y.litres = x.litres;
                y.hard = x.hard;
                y.where = x.where;
                y.store = x.store;
                y.crystal = x.crystal;
                m.batches.add(y);
            }
            for (Store x : stores) {
                Store y = new Store();
                y.set = x.set;
                y.temp = x.temp;
                m.stores.add(y);
            }
            return m;
        }

        void index(boolean is) {
            if (!is) {
                throw new IndexOutOfBoundsException();
            }
        }

        void argument(boolean is) {
            if (!is) {
                throw new IllegalArgumentException();
            }
        }

        void state(boolean is) {
            if (!is) {
                throw new IllegalStateException();
            }
        }

        boolean in(int value, int low, int high) {
            return low <= value && value <= high;
        }

        int sum(Mix m, int column) {
            int sum = 0;
            for (int[] row : m.in) {
                sum += row[1] * (column < 0 ? 1 : ingredients.get(row[0])[column]);
            }
            return sum;
        }

        double percent(Mix m, int column) {
            return (double) sum(m, column) / sum(m, -1) / 10.0;
        }

        int harms(Mix m) {
            int harms = 0;
            for (int[] row : m.in) {
                harms |= ingredients.get(row[0])[4];
            }
            return harms;
        }

        boolean cream(Mix m) {
            return percent(m, 0) >= 10.0 && percent(m, 1) >= 8.0;
        }

        double freezes(Mix m) {
            return -(percent(m, 2) * 0.0625 + percent(m, 1) * 0.03125);
        }

        double iceOf(Mix m, double t) {
            if (t >= freezes(m)) {
                return 0.0;
            }
            return 1.0 - freezes(m) / t;
        }

        boolean isCalled(Batch b) {
            for (int[] row : mixes.get(b.mix).in) {
                if (called[row[0]]) {
                    return true;
                }
            }
            return false;
        }

        int count(String where) {
            int count = 0;
            for (Batch b : batches) {
                if (b.where.equals(where)) {
                    count++;
                }
            }
            return count;
        }

        void hour() {
            for (Mix m : mixes) {
                m.age++;
            }
            for (Batch b : batches) {
                if (b.where.equals("belt") && !b.hard) {
                    b.where = "lost";
                }
            }
            for (int s = 0; s < stores.size(); s++) {
                Store store = stores.get(s);
                double ahead = store.temp;
                store.temp = store.temp + (store.set - store.temp) * 0.25;
                for (Batch b : batches) {
                    if (b.where.equals("store") && b.store == s) {
                        Mix m = mixes.get(b.mix);
                        b.crystal += 24.0 * Math.abs(iceOf(m, ahead) - iceOf(m, store.temp));
                        if (!(ahead < freezes(m))) {
                            b.where = "lost";
                        }
                    }
                }
            }
            hours++;
        }

        double ingredient(int fat, int milk, int sugar, int cost, int harms) {
            argument(fat >= 0 && milk >= 0 && sugar >= 0 && (long) fat + milk + sugar <= 1000);
            argument(in(cost, 1, 99) && in(harms, 0, 15));
            state(ingredients.size() < 6);
            ingredients.add(new int[] {fat, milk, sugar, cost, harms});
            return ingredients.size() - 1;
        }

        double mix(int ingredient, int kilos) {
            index(in(ingredient, 0, ingredients.size() - 1));
            argument(in(kilos, 1, 500));
            state(mixes.size() < 5);
            Mix m = new Mix();
            m.in.add(new int[] {ingredient, kilos});
            mixes.add(m);
            return mixes.size() - 1;
        }

        double put(int mix, int ingredient, int kilos) {
            index(in(mix, 0, mixes.size() - 1) && in(ingredient, 0, ingredients.size() - 1));
            argument(in(kilos, 1, 500));
            Mix m = mixes.get(mix);
            state(sum(m, -1) + kilos <= 500 && m.runs == 0);
            m.in.add(new int[] {ingredient, kilos});
            m.proved = false;
            return sum(m, -1);
        }

        double heat(int mix, int degrees, int seconds) {
            index(in(mix, 0, mixes.size() - 1));
            argument(in(degrees, 20, 120) && in(seconds, 1, 9999));
            Mix m = mixes.get(mix);
            m.age = 0;
            m.proved |= in(degrees, 65, 69) && seconds >= 1800;
            m.proved |= in(degrees, 70, 74) && seconds >= 300;
            m.proved |= in(degrees, 75, 79) && seconds >= 60;
            m.proved |= degrees >= 80 && seconds >= 15;
            return m.proved ? 1 : 0;
        }

        double run(int barrel, int mix, int kilos, int air) {
            double bar = bars(barrel, mix, kilos, air);
            if (bar > 0) {
                return -(10 + bar);
            }
            Mix m = mixes.get(mix);
            m.gone += kilos;
            m.runs++;
            rests[barrel] = harms(m);
            Batch b = new Batch();
            b.mix = mix;
            b.litres = (kilos - 2) * (100 + air) / 100;
            batches.add(b);
            return batches.size() - 1;
        }

        double wash(int barrel) {
            index(in(barrel, 0, 1));
            int before = rests[barrel];
            rests[barrel] = 0;
            washes++;
            return before;
        }

        double harden(int batch, int minutes) {
            index(in(batch, 0, batches.size() - 1));
            argument(in(minutes, 10, 90));
            Batch b = batches.get(batch);
            state(b.where.equals("belt") && !b.hard);
            b.crystal += minutes * 0.25;
            b.hard = true;
            return b.crystal;
        }

        double store(int set) {
            argument(in(set, -30, -10));
            state(stores.size() < 3);
            Store s = new Store();
            s.set = set;
            s.temp = set;
            stores.add(s);
            return stores.size() - 1;
        }

        double set(int store, int set) {
            index(in(store, 0, stores.size() - 1));
            argument(in(set, -30, -10));
            double before = stores.get(store).set;
            stores.get(store).set = set;
            return before;
        }

        double lay(int batch, int store) {
            index(in(batch, 0, batches.size() - 1) && in(store, 0, stores.size() - 1));
            Batch b = batches.get(batch);
            state(!b.where.equals("sold") && !b.where.equals("lost") && b.hard);
            b.where = "store";
            b.store = store;
            int there = 0;
            for (Batch other : batches) {
                if (other.where.equals("store") && other.store == store) {
                    there++;
                }
            }
            return there;
        }

        double door(int store, int often) {
            index(in(store, 0, stores.size() - 1));
            argument(in(often, 1, 20));
            Store s = stores.get(store);
            for (int i = 0; i < often; i++) {
                s.temp = Math.min(s.temp + 1.5, 8.0);
            }
            return s.temp;
        }

        double pass(int some) {
            argument(in(some, 1, 48));
            for (int i = 0; i < some; i++) {
                hour();
            }
            return count("lost");
        }

        double sell(int batch, int price) {
            index(in(batch, 0, batches.size() - 1));
            argument(in(price, 1, 99));
            Batch b = batches.get(batch);
            state(b.where.equals("store") && b.crystal <= 50.0 && !isCalled(b));
            b.where = "sold";
            gain += b.litres * price;
            return gain;
        }

        double call(int ingredient) {
            index(in(ingredient, 0, ingredients.size() - 1));
            called[ingredient] = true;
            int litres = 0;
            for (Batch b : batches) {
                boolean has = false;
                for (int[] row : mixes.get(b.mix).in) {
                    has |= row[0] == ingredient;
                }
                litres += has && b.where.equals("sold") ? b.litres : 0;
            }
            return litres;
        }

        double ofMix(int mix, int what) {
            index(in(mix, 0, mixes.size() - 1));
            argument(in(what, 0, 8));
            Mix m = mixes.get(mix);
            int set = 0;
            for (int[] row : m.in) {
                set |= 1 << row[0];
            }
            int[] all = {sum(m, -1), sum(m, -1) - m.gone, sum(m, 3), harms(m), m.proved ? 1 : 0,
                m.age, cream(m) ? 1 : 0, set, m.runs};
            return all[what];
        }

        double part(int mix, int what) {
            index(in(mix, 0, mixes.size() - 1));
            argument(in(what, 0, 3));
            Mix m = mixes.get(mix);
            return what == 3 ? freezes(m) : percent(m, what);
        }

        double ice(int mix, int temp) {
            index(in(mix, 0, mixes.size() - 1));
            argument(in(temp, -40, 20));
            return iceOf(mixes.get(mix), temp);
        }

        double bars(int barrel, int mix, int kilos, int air) {
            index(in(barrel, 0, 1) && in(mix, 0, mixes.size() - 1));
            argument(in(kilos, 5, 500) && in(air, 20, 140));
            Mix m = mixes.get(mix);
            boolean[] bar = {!m.proved, m.age < 4, m.age > 72, sum(m, -1) - m.gone < kilos,
                (rests[barrel] | harms(m)) != harms(m), air > 100 && cream(m), batches.size() == 12};
            for (int i = 0; i < bar.length; i++) {
                if (bar[i]) {
                    return i + 1;
                }
            }
            return 0;
        }

        double ofBatch(int batch, int what) {
            index(in(batch, 0, batches.size() - 1));
            argument(in(what, 0, 5));
            Batch b = batches.get(batch);
            int where = b.where.equals("belt") ? -1 : b.where.equals("sold") ? 10
                    : b.where.equals("lost") ? 11 : b.store;
            int[] all = {b.mix, b.litres, b.hard ? 1 : 0, where, b.crystal > 50.0 ? 1 : 0,
                isCalled(b) ? 1 : 0};
            return all[what];
        }

        double crystal(int batch) {
            index(in(batch, 0, batches.size() - 1));
            return batches.get(batch).crystal;
        }

        double temp(int store) {
            index(in(store, 0, stores.size() - 1));
            return stores.get(store).temp;
        }

        double many(int what) {
            argument(in(what, 0, 11));
            int set = 0;
            for (int i = 0; i < 6; i++) {
                set += called[i] ? 1 << i : 0;
            }
            int[] all = {ingredients.size(), mixes.size(), batches.size(), count("lost"),
                count("sold"), stores.size(), hours, gain, rests[0], rests[1], washes, set};
            return all[what];
        }

        double day(int set, boolean isOrder) {
            argument(set >= 0 && set < 1 << mixes.size());
            int[] best = {Integer.MAX_VALUE, 0};
            for (int order = 0; order <= 54321; order++) {
                int washed = washesOf(order, set);
                if (washed >= 0 && washed < best[0]) {
                    best[0] = washed;
                    best[1] = order;
                }
            }
            return isOrder ? best[1] : best[0];
        }

        /** -1 if the digits are not just the set. */
        int washesOf(int order, int set) {
            int rest = set;
            int washed = 0;
            int next = -1;
            for (int digits = order; digits > 0; digits /= 10) {
                int mix = digits % 10 - 1;
                if (mix < 0 || (rest & 1 << mix) == 0) {
                    return -1;
                }
                rest -= 1 << mix;
                if (next >= 0) {
                    int harms = harms(mixes.get(next));
                    washed += (harms | harms(mixes.get(mix))) == harms ? 0 : 1;
                }
                next = mix;
            }
            return rest == 0 ? washed : -1;
        }

        double wouldBe(int batch, int some) {
            index(in(batch, 0, batches.size() - 1));
            argument(in(some, 1, 48));
            Model then = copy();
            then.pass(some);
            Batch b = then.batches.get(batch);
            return b.where.equals("lost") || b.where.equals("sold") ? -1.0 : b.crystal;
        }

        double wouldSpoil(int store, int often) {
            index(in(store, 0, stores.size() - 1));
            argument(in(often, 0, 20));
            Model then = copy();
            if (often > 0) {
                then.door(store, often);
            }
            then.pass(24);
            int spoiled = 0;
            for (int i = 0; i < batches.size(); i++) {
                Batch now = batches.get(i);
                Batch later = then.batches.get(i);
                boolean here = now.where.equals("store") && now.store == store;
                if (here && now.crystal <= 50.0
                        && (later.where.equals("lost") || later.crystal > 50.0)) {
                    spoiled++;
                }
            }
            return spoiled;
        }

        long digest() {
            long d = 9606;
            for (int i = 0; i < 12; i++) {
                d = d * 31 + (long) many(i);
            }
            for (int m = 0; m < mixes.size(); m++) {
                for (int i = 0; i < 9; i++) {
                    d = d * 31 + (long) ofMix(m, i);
                }
                d = d * 31 + (long) bars(0, m, 20, 80);
            }
            for (int b = 0; b < batches.size(); b++) {
                for (int i = 0; i < 6; i++) {
                    d = d * 31 + (long) ofBatch(b, i);
                }
                d = d * 31 + (long) (crystal(b) * 8);
            }
            for (int s = 0; s < stores.size(); s++) {
                d = d * 31 + (long) (temp(s) * 8);
                d = d * 31 + (long) wouldSpoil(s, 0);
            }
            d = d * 31 + (long) day((1 << mixes.size()) - 1, true);
            return d * 31 + (long) day((1 << mixes.size()) - 1, false);
        }
    }

    /** A call of the house or of the model; what it answers as a double. */
    interface Call {
        double now();
    }

    static String answer(Call call) {
        try {
            double answer = call.now();
            return Double.toString(answer);
        } catch (RuntimeException e) {
            return "throws " + e.getClass().getSimpleName();
        }
    }

    private long seed;
    private final OverrunHouse house = new OverrunHouse();
    private final Model model = new Model();

    private ModelTest(int number) {
        seed = number * 7919L + 17;
    }

    /** The next number of the row, low to high; now and then one just outside, or far away. */
    private int any(int low, int high) {
        seed = seed * 6364136223846793005L + 1442695040888963407L;
        int step = (int) (seed >>> 40);
        int odd = step % 64;
        if (odd == 0) {
            return low - 1;
        }
        if (odd == 1) {
            return high + 1;
        }
        if (step % 512 == 2) {
            return Integer.MIN_VALUE;
        }
        if (step % 512 == 3) {
            return Integer.MAX_VALUE;
        }
        seed = seed * 6364136223846793005L + 1442695040888963407L;
        return low + (int) ((seed >>> 33) % (high - low + 1));
    }

    private void both(String name, Call house, Call model) {
        CHECK.same(name, answer(house), answer(model));
    }

    private void step(int i) {
        int kind = i < 24 ? any(0, 6) : any(0, 60);
        int a = any(0, 1);
        int m = any(0, model.mixes.size() - 1 < 0 ? 0 : model.mixes.size() - 1);
        int b = any(0, model.batches.isEmpty() ? 0 : model.batches.size() - 1);
        int s = any(0, model.stores.isEmpty() ? 0 : model.stores.size() - 1);
        int n = any(0, model.ingredients.isEmpty() ? 0 : model.ingredients.size() - 1);
        if (kind < 14) {
            making(i, kind, a, m, n);
        } else if (kind < 34) {
            moving(kind, b, s, n);
        } else {
            asking(kind, a, m, b, s);
        }
    }

    private void making(int i, int kind, int a, int m, int n) {
        int k = any(1, i < 24 ? 200 : 40);
        int fat = any(0, 250);
        int sugar = any(0, 400);
        int harms = any(0, 15) & any(0, 15);
        int degrees = any(60, 95);
        int seconds = any(1, 2500);
        int air = any(20, 140);
        switch (kind) {
            case 0:
            case 1:
                both("ingredient", () -> house.ingredient(fat, fat / 2, sugar, k, harms),
                        () -> model.ingredient(fat, fat / 2, sugar, k, harms));
                break;
            case 2:
            case 3:
                both("mix", () -> house.mix(n, k + 100), () -> model.mix(n, k + 100));
                break;
            case 4:
            case 5:
                both("put", () -> house.put(m, n, k), () -> model.put(m, n, k));
                break;
            case 6:
            case 7:
                both("heat", () -> house.heat(m, degrees, seconds) ? 1 : 0,
                        () -> model.heat(m, degrees, seconds));
                break;
            case 8:
                both("wash", () -> house.wash(a), () -> model.wash(a));
                break;
            default:
                both("run", () -> house.run(a, m, k + 4, air), () -> model.run(a, m, k + 4, air));
                break;
        }
    }

    private void moving(int kind, int b, int s, int n) {
        int minutes = any(10, 90);
        int set = any(-30, -10);
        int often = any(1, 9);
        int hours = any(1, 6);
        int price = any(1, 99);
        switch (kind) {
            case 14:
                both("store", () -> house.store(set), () -> model.store(set));
                break;
            case 15:
                both("set", () -> house.set(s, set), () -> model.set(s, set));
                break;
            case 16:
            case 17:
            case 18:
            case 19:
                both("lay", () -> house.lay(b, s), () -> model.lay(b, s));
                break;
            case 20:
            case 21:
            case 22:
                both("door", () -> house.door(s, often), () -> model.door(s, often));
                break;
            case 23:
            case 24:
                both("pass", () -> house.pass(hours), () -> model.pass(hours));
                break;
            case 25:
                both("sell", () -> house.sell(b, price), () -> model.sell(b, price));
                break;
            case 26:
                if (price < 10) {
                    both("call", () -> house.call(n), () -> model.call(n));
                }
                break;
            default:
                both("harden", () -> house.harden(b, minutes), () -> model.harden(b, minutes));
                break;
        }
    }

    private void asking(int kind, int a, int m, int b, int s) {
        int what = any(0, 11);
        int hours = any(1, 48);
        int often = any(0, 20);
        int kilos = any(5, 100);
        int air = any(20, 140);
        int temp = any(-40, 20);
        int set = any(0, (1 << model.mixes.size()) - 1);
        switch (kind % 12) {
            case 0:
                both("ofMix", () -> house.ofMix(m, what), () -> model.ofMix(m, what));
                break;
            case 1:
                both("part", () -> house.part(m, what % 5), () -> model.part(m, what % 5));
                break;
            case 2:
                both("ice", () -> house.ice(m, temp), () -> model.ice(m, temp));
                break;
            case 3:
                both("bars", () -> house.bars(a, m, kilos, air), () -> model.bars(a, m, kilos, air));
                break;
            case 4:
                both("ofBatch", () -> house.ofBatch(b, what % 7), () -> model.ofBatch(b, what % 7));
                break;
            case 5:
                both("crystal", () -> house.crystal(b), () -> model.crystal(b));
                break;
            case 6:
                both("temp", () -> house.temp(s), () -> model.temp(s));
                break;
            case 7:
                both("many", () -> house.many(what), () -> model.many(what));
                break;
            case 8:
                both("day", () -> house.day(set, a == 0), () -> model.day(set, a == 0));
                break;
            case 9:
                both("wouldBe", () -> house.wouldBe(b, hours), () -> model.wouldBe(b, hours));
                break;
            case 10:
                both("wouldSpoil", () -> house.wouldSpoil(s, often), () -> model.wouldSpoil(s, often));
                break;
            default:
                CHECK.same("digest", house.digest(), model.digest());
                break;
        }
    }

    public static void main(String[] args) {
        for (int number = 0; number < 200; number++) {
            ModelTest run = new ModelTest(number);
            for (int i = 0; i < 500; i++) {
                run.step(i);
            }
            CHECK.same("digest at the end of run " + number, run.house.digest(), run.model.digest());
        }
        CHECK.end();
    }
}
