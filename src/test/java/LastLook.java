/**
 * All that a house holds, as a text. It tells more than the digest does, and some of it can only be
 * found by telling the house something: so the house is of no use behind it.
 */
final class LastLook {
    private final OverrunHouse house;
    private final StringBuilder text = new StringBuilder();

    private LastLook(OverrunHouse house) {
        this.house = house;
    }

    static String of(OverrunHouse house) {
        LastLook look = new LastLook(house);
        look.counts();
        look.mixes();
        look.batches();
        look.stores();
        look.whatWouldBe();
        look.ingredients();
        return look.text.toString();
    }

    private void add(String what, double value) {
        text.append(what).append(' ').append(value).append("; ");
    }

    private void counts() {
        for (int what = 0; what <= 11; what++) {
            add("many " + what, house.many(what));
        }
    }

    private void mixes() {
        for (int mix = 0; mix < house.many(1); mix++) {
            for (int what = 0; what <= 8; what++) {
                add("mix " + mix + " has " + what, house.ofMix(mix, what));
            }
            for (int what = 0; what <= 3; what++) {
                add("part " + what, house.part(mix, what));
            }
            add("ice", house.ice(mix, -7));
            add("bars", house.bars(0, mix, 5, 100) * 10 + house.bars(1, mix, 5, 101));
        }
    }

    private void batches() {
        for (int batch = 0; batch < house.many(2); batch++) {
            for (int what = 0; what <= 5; what++) {
                add("batch " + batch + " has " + what, house.ofBatch(batch, what));
            }
            add("crystal", house.crystal(batch));
            add("would be", house.wouldBe(batch, 48));
        }
    }

    private void stores() {
        for (int store = 0; store < house.many(5); store++) {
            add("store " + store + " has", house.temp(store));
            add("would spoil", house.wouldSpoil(store, 0) * 100 + house.wouldSpoil(store, 9));
        }
    }

    private void whatWouldBe() {
        int all = (1 << house.many(1)) - 1;
        add("order", house.day(all, true));
        add("washes", house.day(all, false));
        text.append("digest ").append(house.digest()).append("; ");
    }

    /** What was told of an ingredient, or is wanted of a store, is seen by telling more. */
    private void ingredients() {
        for (int store = 0; store < house.many(5); store++) {
            add("set", house.set(store, -11));
        }
        int room = 5 - house.many(1);
        int last = house.many(0) - 1;
        for (int i = 0; i < room && last - i >= 0; i++) {
            int mix = house.mix(last - i, 7);
            for (int what = 0; what <= 8; what++) {
                add("of the ingredient " + (last - i), house.ofMix(mix, what));
            }
            for (int what = 0; what <= 3; what++) {
                add("its part " + what, house.part(mix, what));
            }
        }
        add("lost behind an hour", house.pass(1));
        text.append("digest ").append(house.digest());
    }
}
