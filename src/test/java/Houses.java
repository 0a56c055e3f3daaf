/** The houses that the tests of the edges begin with. */
final class Houses {
    /** The batches of places(), each by what is with it. */
    static final int COARSE = 0;
    static final int LOST_HARD = 1;
    static final int LOST_SOFT = 2;
    static final int SOLD = 3;
    static final int CALLED = 4;
    static final int GOOD = 5;
    static final int HARD = 6;
    static final int SOFT = 7;

    private Houses() {
    }

    static OverrunHouse ingredients(int many) {
        OverrunHouse h = new OverrunHouse();
        for (int i = 0; i < many; i++) {
            h.ingredient(10 * i, 80, 160, 10 + i, i);
        }
        return h;
    }

    /** Of each of six ingredients but the last one a mix of 100 kilograms, up to so many. */
    static OverrunHouse mixes(int many) {
        OverrunHouse h = ingredients(6);
        for (int i = 0; i < many; i++) {
            h.mix(i, 100);
        }
        return h;
    }

    /** These mixes can be run: PROVED, with an AGE of 4. */
    static OverrunHouse ready(int many) {
        OverrunHouse h = mixes(many);
        for (int i = 0; i < many; i++) {
            h.heat(i, 80, 15);
        }
        h.pass(4);
        return h;
    }

    /** So many soft batches of 10 kilograms each, on the belt, of five mixes in turn. */
    static OverrunHouse soft(int many) {
        OverrunHouse h = ready(5);
        for (int i = 0; i < many; i++) {
            h.wash(0);
            h.run(0, i % 5, 10, 50);
        }
        return h;
    }

    /** The same, hard on the belt, and three stores. */
    static OverrunHouse hard(int many) {
        OverrunHouse h = soft(many);
        for (int i = 0; i < many; i++) {
            h.harden(i, 10);
        }
        for (int i = 0; i < 3; i++) {
            h.store(-20 - i);
        }
        return h;
    }

    /** The same, each laid into one of the stores. */
    static OverrunHouse stored(int many) {
        OverrunHouse h = hard(many);
        for (int i = 0; i < many; i++) {
            h.lay(i, i % 3);
        }
        return h;
    }

    /** Just one of each, so that the number 0 is the last one that there is. */
    static OverrunHouse one() {
        OverrunHouse h = ingredients(1);
        h.mix(0, 100);
        h.heat(0, 80, 15);
        h.pass(4);
        h.run(0, 0, 10, 50);
        h.harden(0, 10);
        h.store(-20);
        return h;
    }

    /** A batch in each place there is; the mix freezes at -3.0, and store 0 has -8.0. */
    static OverrunHouse places() {
        OverrunHouse h = new OverrunHouse();
        h.ingredient(0, 0, 480, 1, 3);
        h.ingredient(0, 0, 480, 1, 0);
        h.mix(0, 200);
        h.mix(0, 90);
        h.put(1, 1, 10);
        h.heat(0, 80, 15);
        h.heat(1, 80, 15);
        h.store(-10);
        h.store(-12);
        h.pass(4);
        add(h, COARSE, 0, 90, 0);
        add(h, LOST_HARD, 0, 10, 1);
        h.run(0, 0, 12, 50);
        h.door(0, 4);
        h.set(0, -20);
        h.door(1, 6);
        h.pass(1);
        add(h, SOLD, 0, 10, 0);
        h.sell(SOLD, 2);
        add(h, CALLED, 1, 10, 0);
        h.call(1);
        add(h, GOOD, 0, 10, 0);
        h.run(0, 0, 12, 50);
        h.harden(HARD, 10);
        h.run(0, 0, 12, 50);
        return h;
    }

    private static void add(OverrunHouse h, int batch, int mix, int minutes, int store) {
        h.run(0, mix, 12, 50);
        h.harden(batch, minutes);
        h.lay(batch, store);
    }

    /** One batch (its mix freezes at -3.0) in the first store, which wants this. */
    static OverrunHouse kept(int minutes, int set) {
        OverrunHouse h = new OverrunHouse();
        h.ingredient(0, 0, 480, 1, 0);
        h.mix(0, 500);
        h.heat(0, 80, 15);
        h.pass(4);
        h.run(0, 0, 12, 50);
        h.harden(0, minutes);
        h.store(set);
        h.lay(0, 0);
        return h;
    }
}
