/** The edges of the other steps of a tick: power, temperature, costs, life, and the orders that are due. */
public final class TickEdgesTest {
    public static void main(String[] args) {
        powerUpToTheLimit();
        refusedPowerIsNotCounted();
        noPowerAtAll();
        leastPowerLimit();
        sameWarmthLowestNumber();
        warmestAboveItsUpperLimitFirst();
        belowTheUpperLimit();
        orderByLimitsAsTheyAre();
        orderByTemperatureBeforeTheTick();
        roundedTowardsZero();
        strengthInAddition();
        coldestTemperature();
        coldestIsRecorded();
        pricesInAndOutOfThePeak();
        pricesRoundMidnight();
        noRoomsNoPower();
        lifeByTemperature();
        narrowestKind();
        lifeDownToZero();
        lifeByTheEndOfTheTick();
        onlyPalletsInRooms();
        dueToTheTick();
        dueInTheMiddleOfPass();
        dueAtTheLastTime();
        justEnoughCandidates();
        justEnoughLife();
        dueInTheOrderOfNumbers();
        closedOrdersAreLeft();
        Check.end();
    }

    /** Rooms of the powers given that want to be cooled, at 100 tenths; the room i is 100 - 10 * i above its limit. */
    private static ColdStore rooms(int... powers) {
        ColdStore store = new ColdStore();
        store.setOutside(100);
        for (int room = 0; room < powers.length; room++) {
            store.addRoom(1, 1, powers[room]);
            store.setMode(room, 'o');
            store.setLimits(room, 0, 10 * room);
        }
        return store;
    }

    private static String cooled(ColdStore store, int rooms) {
        StringBuilder text = new StringBuilder();
        for (int room = 0; room < rooms; room++) {
            text.append(store.isCooled(room) ? '+' : '-');
        }
        return text.toString();
    }

    private static void powerWithin(String what, int limit, String due, int... powers) {
        ColdStore store = rooms(powers);
        store.setPowerLimit(limit);
        store.pass(1);
        Check.same(what + ", limit " + limit, cooled(store, powers.length), due);
        int sum = 0;
        for (int room = 0; room < powers.length; room++) {
            sum += due.charAt(room) == '+' ? powers[room] : 0;
        }
        Check.same(what + ", power", store.power(), sum);
        Check.same(what + ", bill", store.bill(), 10L * sum);
    }

    private static void powerUpToTheLimit() {
        powerWithin("one room: just enough", 60, "+", 60);
        powerWithin("one room: one too little", 59, "-", 60);
        powerWithin("two rooms: just enough", 100, "++", 60, 40);
        powerWithin("two rooms: one too little", 99, "+-", 60, 40);
        powerWithin("four rooms: just enough", 400, "++++", 100, 100, 100, 100);
        powerWithin("four rooms: one too little", 399, "+++-", 100, 100, 100, 100);
    }

    private static void refusedPowerIsNotCounted() {
        powerWithin("the first is too much", 59, "-+", 60, 59);
        powerWithin("the second is too much", 100, "+-+", 60, 41, 40);
        powerWithin("the second is too much", 99, "+--", 60, 41, 40);
        powerWithin("the first two are too much", 50, "--++", 60, 51, 30, 20);
        powerWithin("the first two are too much", 49, "--+-", 60, 51, 30, 20);
    }

    private static void noPowerAtAll() {
        powerWithin("no power", 0, "----", 1, 1, 1, 100);
        ColdStore store = rooms(1);
        store.setPowerLimit(0);
        store.pass(1);
        Check.same("without power the strength does nothing", store.temperature(0), 100);
        Check.same("without power nothing is recorded", store.greatestPower(), 0);
    }

    private static void leastPowerLimit() {
        powerWithin("the least power", 1, "-+-", 2, 1, 1);
        powerWithin("the least power, twice", 2, "-++", 3, 1, 1);
    }

    private static void sameWarmthLowestNumber() {
        ColdStore store = rooms(10, 10, 10, 10);
        for (int room = 0; room < 4; room++) {
            store.setLimits(room, 0, 50);
        }
        store.setPowerLimit(10);
        store.pass(1);
        Check.same("the lowest number of four", cooled(store, 4), "+---");
        store.pass(1);
        Check.same("the lowest number of the others, which are warmer now", cooled(store, 4), "-+--");
        store.pass(1);
        Check.same("the lowest number of two", cooled(store, 4), "--+-");
        store.pass(1);
        Check.same("the last", cooled(store, 4), "---+");
        store.pass(1);
        Check.same("the lowest number again", cooled(store, 4), "+---");
    }

    private static void warmestAboveItsUpperLimitFirst() {
        ColdStore store = rooms(10, 10);
        store.setPowerLimit(10);
        store.setLimits(0, 0, 51);
        store.setLimits(1, 0, 50);
        store.pass(1);
        Check.same("one more above its limit, though the number is greater", cooled(store, 2), "-+");
        ColdStore warm = new ColdStore();
        warm.setOutside(101);
        warm.addRoom(1, 1, 10);
        warm.setOutside(100);
        warm.addRoom(1, 1, 10);
        warm.setLimits(0, 0, 52);
        warm.setLimits(1, 0, 50);
        warm.setPowerLimit(10);
        warm.pass(1);
        Check.same("not the warmest, but the one that is most above its limit", cooled(warm, 2), "-+");
        ColdStore least = rooms(10, 10, 10, 10);
        for (int room = 0; room < 4; room++) {
            least.setLimits(room, -300, 300 - 150 * room);
        }
        least.setPowerLimit(10);
        least.pass(1);
        Check.same("the last of four", cooled(least, 4), "---+");
    }

    private static void belowTheUpperLimit() {
        ColdStore store = rooms(10, 10, 10);
        store.setLimits(0, 0, 300);
        store.setLimits(1, 0, 299);
        store.setLimits(2, 0, 299);
        store.setPowerLimit(10);
        store.pass(1);
        Check.same("the least below its limit", cooled(store, 3), "-+-");
        ColdStore zero = rooms(10, 10);
        zero.setLimits(0, 0, 101);
        zero.setLimits(1, 0, 100);
        zero.setPowerLimit(10);
        zero.pass(1);
        Check.same("at its limit before below it", cooled(zero, 2), "-+");
    }

    private static void orderByLimitsAsTheyAre() {
        for (int first = 0; first <= 1; first++) {
            ColdStore store = rooms(10, 10);
            store.setPrices(10, 10, first, first);
            store.setLimits(0, 0, 50);
            store.setLimits(1, 0, 51);
            store.setLead(first, 1, 100);
            store.setMode(0, 'a');
            store.setMode(1, 'a');
            store.setPowerLimit(10);
            if (first == 0) {
                store.setLimits(0, -300, -50);
                store.setLimits(1, -300, -49);
            }
            store.pass(1);
            Check.same("not lowered or raised for the order, peak at " + first, cooled(store, 2), "+-");
        }
    }

    private static void orderByTemperatureBeforeTheTick() {
        ColdStore store = new ColdStore();
        store.setOutside(100);
        store.addRoom(50, 1, 10);
        store.setOutside(101);
        store.addRoom(1, 1, 10);
        store.setOutside(450);
        store.setPowerLimit(10);
        store.pass(1);
        Check.same("the temperature at the beginning of the tick", cooled(store, 2), "-+");
    }

    /** The temperature after a tick without cooling. */
    private static int after(int inside, int outside, int leak) {
        ColdStore store = new ColdStore();
        store.setOutside(inside);
        store.addRoom(leak, 100, 1);
        store.setMode(0, 'n');
        store.setOutside(outside);
        store.pass(1);
        return store.temperature(0);
    }

    private static void roundedTowardsZero() {
        Check.same("99 / 100", after(0, 99, 1), 0);
        Check.same("100 / 100", after(0, 100, 1), 1);
        Check.same("199 / 100", after(0, 199, 1), 1);
        Check.same("200 / 100", after(0, 200, 1), 2);
        Check.same("-99 / 100", after(0, -99, 1), 0);
        Check.same("-100 / 100", after(0, -100, 1), -1);
        Check.same("-199 / 100", after(0, -199, 1), -1);
        Check.same("-200 / 100", after(0, -200, 1), -2);
        Check.same("the change is rounded, not the temperature", after(-50, 49, 1), -50);
        Check.same("the change is rounded, not the temperature", after(-50, -149, 1), -50);
        Check.same("50 / 100", after(0, 1, 50), 0);
        Check.same("100 / 100", after(0, 2, 50), 1);
        Check.same("150 / 100", after(0, 3, 50), 1);
        Check.same("-150 / 100", after(0, -3, 50), -1);
        Check.same("no difference", after(77, 77, 50), 77);
        Check.same("the greatest fall", after(450, -300, 50), 75);
        Check.same("the greatest rise", after(-300, 450, 50), 75);
    }

    private static void strengthInAddition() {
        ColdStore store = new ColdStore();
        store.setOutside(0);
        store.addRoom(1, 1, 1);
        store.addRoom(1, 100, 1);
        store.setMode(0, 'o');
        store.setMode(1, 'o');
        store.setOutside(-199);
        store.pass(1);
        Check.same("-1.99 is rounded, and then 1 is taken", store.temperature(0), -2);
        Check.same("-1.99 is rounded, and then 100 is taken", store.temperature(1), -101);
        store.setOutside(97);
        store.pass(1);
        Check.same("0.99 is rounded, and then 1 is taken", store.temperature(0), -3);
        Check.same("1.98 is rounded, and then 100 is taken", store.temperature(1), -200);
    }

    /** A room that has been cooled down to the temperature, which is -300 to -400. */
    private static ColdStore coldRoom(int temperature) {
        ColdStore store = new ColdStore();
        store.setOutside(-300);
        store.addRoom(1, 1, 1);
        store.setMode(0, 'o');
        for (int tick = 0; tick < 110 && store.temperature(0) > temperature; tick++) {
            store.pass(1);
        }
        return store;
    }

    private static void coldestTemperature() {
        ColdStore store = coldRoom(-399);
        Check.same("above the coldest", store.temperature(0), -399);
        store.pass(1);
        Check.same("-400 is not below -400", store.temperature(0), -400);
        store.setOutside(-300);
        store.pass(1);
        Check.same("1 - 1 keeps -400", store.temperature(0), -400);
        store.setMode(0, 'n');
        store.pass(1);
        Check.same("it warms up from -400", store.temperature(0), -399);
        ColdStore strong = new ColdStore();
        strong.setOutside(-300);
        for (int strength : new int[] {99, 100, 50, 51}) {
            strong.addRoom(1, strength, 1);
        }
        for (int room = 0; room < 4; room++) {
            strong.setMode(room, 'o');
        }
        strong.pass(1);
        Check.same("-399 stays", strong.temperature(0), -399);
        Check.same("-400 stays", strong.temperature(1), -400);
        strong.pass(1);
        Check.same("-497 becomes -400", strong.temperature(0), -400);
        Check.same("-499 becomes -400", strong.temperature(1), -400);
        Check.same("-400 stays", strong.temperature(2), -400);
        Check.same("-402 becomes -400", strong.temperature(3), -400);
        strong.setMode(0, 'n');
        strong.setMode(3, 'n');
        strong.pass(1);
        Check.same("it begins at -400", strong.temperature(0), -399);
        Check.same("it begins at -400", strong.temperature(3), -399);
    }

    private static void coldestIsRecorded() {
        ColdStore store = new ColdStore();
        store.setOutside(-300);
        store.addRoom(1, 100, 1);
        store.setMode(0, 'o');
        store.addKind(100, -300, -400);
        store.addKind(100, -300, -399);
        store.addPallet(0, 0);
        store.addPallet(1, 0);
        store.pass(2);
        Check.sameDouble("12: -400 and -400", store.meanTemperature(0), -400.0);
        Check.same("11: -400", store.warmest(0), -400);
        Check.same("28: -400 is not less than the lowest, -400", store.life(0), 98);
        Check.same("29: -400 is not less than the lowest, -400", store.lifeByRecords(0), 98);
        Check.same("28: -400 is less than the lowest, -399", store.life(1), 80);
        Check.same("29: -400 is less than the lowest, -399", store.lifeByRecords(1), 80);
    }

    /** What a kilowatt costs in the tick. */
    private static long priceIn(int tick, int first, int last) {
        ColdStore store = new ColdStore();
        store.addRoom(1, 1, 1);
        store.setMode(0, 'n');
        store.setPrices(3, 5, first, last);
        Twins.passTo(store, tick);
        store.setMode(0, 'o');
        store.pass(1);
        Check.same("20: the tick " + tick, store.billByRecords(), store.bill());
        return store.bill();
    }

    private static void pricesInAndOutOfThePeak() {
        Check.same("19: before the first quarter", priceIn(29, 30, 34), 3);
        Check.same("19: the first quarter", priceIn(30, 30, 34), 5);
        Check.same("19: the last quarter", priceIn(34, 30, 34), 5);
        Check.same("19: behind the last quarter", priceIn(35, 30, 34), 3);
        Check.same("19: before the only quarter", priceIn(29, 30, 30), 3);
        Check.same("19: the only quarter", priceIn(30, 30, 30), 5);
        Check.same("19: behind the only quarter", priceIn(31, 30, 30), 3);
        for (int tick = 0; tick < 96; tick++) {
            Check.same("19: all day", priceIn(tick, 0, 95), 5);
        }
    }

    private static void pricesRoundMidnight() {
        for (int day = 0; day < 10; day++) {
            int midnight = 96 * day;
            Check.same("19: the first quarter of the day", priceIn(midnight, 0, 0), 5);
            Check.same("19: the second quarter of the day", priceIn(midnight + 1, 0, 0), 3);
            Check.same("19: the last quarter of the day", priceIn(midnight + 95, 95, 95), 5);
            Check.same("19: the first is not the last", priceIn(midnight, 95, 95), 3);
            Check.same("19: the last is not the first", priceIn(midnight + 95, 0, 0), 3);
        }
    }

    private static void noRoomsNoPower() {
        ColdStore store = new ColdStore();
        store.setCharge(1000);
        store.setPrices(1000, 1000, 0, 95);
        store.pass(96);
        Check.same("17: no rooms", store.power(), 0);
        Check.same("18: no rooms", store.greatestPower(), 0);
        Check.same("19: no rooms", store.bill(), 0);
        Check.same("20: no rooms", store.billByRecords(), 0);
    }

    /** What a pallet loses in a tick, by the life, by the records and as forecast. */
    private static int lossAt(int temperature, int best, int lowest) {
        ColdStore store = new ColdStore();
        store.setOutside(temperature);
        store.addRoom(1, 1, 1);
        store.setMode(0, 'n');
        store.addKind(1000, best, lowest);
        store.addPallet(0, 0);
        int forecast = store.forecast(0, 1);
        store.pass(1);
        Check.same("29: at " + temperature, store.lifeByRecords(0), store.life(0));
        Check.same("30: at " + temperature, forecast, store.life(0));
        return 1000 - store.life(0);
    }

    private static void lifeByTemperature() {
        Check.same("28: one less than the lowest", lossAt(-31, 40, -30), 10);
        Check.same("28: the lowest", lossAt(-30, 40, -30), 1);
        Check.same("28: one more than the lowest", lossAt(-29, 40, -30), 1);
        Check.same("28: 20 less than the best", lossAt(20, 40, -30), 1);
        Check.same("28: one less than the best", lossAt(39, 40, -30), 1);
        Check.same("28: the best", lossAt(40, 40, -30), 1);
        Check.same("28: one more than the best", lossAt(41, 40, -30), 1);
        for (int full = 1; full <= 20; full++) {
            Check.same("28: one less than full 20 tenths", lossAt(40 + 20 * full - 1, 40, -30), full);
            Check.same("28: full 20 tenths", lossAt(40 + 20 * full, 40, -30), full + 1);
        }
        Check.same("28: the warmest, the coldest kind", lossAt(450, -300, -400), 38);
        Check.same("28: the coldest, the warmest kind", lossAt(-300, 300, 299), 10);
    }

    private static void narrowestKind() {
        Check.same("28: less than the lowest", lossAt(98, 100, 99), 10);
        Check.same("28: the lowest, one less than the best", lossAt(99, 100, 99), 1);
        Check.same("28: the best", lossAt(100, 100, 99), 1);
        Check.same("28: less than the lowest, below zero", lossAt(-102, -100, -101), 10);
        Check.same("28: the lowest, below zero", lossAt(-101, -100, -101), 1);
        Check.same("28: 19 more, across zero", lossAt(9, -10, -20), 1);
        Check.same("28: 20 more, across zero", lossAt(10, -10, -20), 2);
    }

    private static int lifeAfter(int full, int temperature, int ticks) {
        ColdStore store = new ColdStore();
        store.setOutside(temperature);
        store.addRoom(1, 1, 1);
        store.setMode(0, 'n');
        store.addKind(full, 40, 0);
        store.addPallet(0, 0);
        int forecast = store.forecast(0, ticks);
        Twins.passTo(store, ticks);
        Check.same("29: " + ticks + " ticks", store.lifeByRecords(0), store.life(0));
        Check.same("30: " + ticks + " ticks", forecast, store.life(0));
        return store.life(0);
    }

    private static void lifeDownToZero() {
        Check.same("28: one more than is lost", lifeAfter(11, -1, 1), 1);
        Check.same("28: as much as is lost", lifeAfter(10, -1, 1), 0);
        Check.same("28: one less than is lost", lifeAfter(9, -1, 1), 0);
        Check.same("28: the least life", lifeAfter(1, -1, 1), 0);
        Check.same("28: the least life, one unit", lifeAfter(1, 40, 1), 0);
        Check.same("28: 0 stays 0", lifeAfter(1, 40, 2), 0);
        Check.same("28: 0 stays 0 to the end", lifeAfter(1, -1, 960), 0);
        Check.same("28: the last unit", lifeAfter(961, 40, 960), 1);
        Check.same("28: the last unit is lost", lifeAfter(960, 40, 960), 0);
        Check.same("28: the last unit is lost", lifeAfter(960, 40, 959), 1);
        Check.same("28: two units at a time", lifeAfter(5, 60, 2), 1);
        Check.same("28: two units of the last one", lifeAfter(5, 60, 3), 0);
        Check.same("28: the greatest life", lifeAfter(9999, -1, 960), 399);
    }

    private static void lifeByTheEndOfTheTick() {
        ColdStore store = new ColdStore();
        store.setOutside(10);
        store.addRoom(1, 1, 1);
        store.setMode(0, 'o');
        store.addKind(100, 50, 10);
        store.addKind(100, 9, 0);
        store.addPallet(0, 0);
        store.addPallet(1, 0);
        Check.same("30: the present temperature, 10", store.forecast(0, 1), 99);
        store.pass(1);
        Check.same("9: new temperature", store.temperature(0), 9);
        Check.same("28: the new temperature is less than the lowest", store.life(0), 90);
        Check.same("28: the new temperature is the best", store.life(1), 99);
    }

    private static void onlyPalletsInRooms() {
        ColdStore store = Twins.withPallets(4);
        store.order(0, 1, 0, 2);
        store.scrap(3);
        store.pass(1);
        int life = store.life(0);
        store.pass(95);
        Check.same("26: shipped", store.state(0), 's');
        Check.holds("28: the shipped one lost life up to its last tick", store.life(0) < life);
        int shipped = store.life(0);
        store.pass(1);
        Check.same("28: the shipped one stays", store.life(0), shipped);
        Check.same("29: the shipped one stays", store.lifeByRecords(0), shipped);
        Check.same("28: the scrapped one stays", store.life(3), 500);
        Check.same("29: the scrapped one stays", store.lifeByRecords(3), 500);
        Check.holds("28: those in rooms go on", store.life(1) < shipped);
    }

    private static void dueToTheTick() {
        for (int due : new int[] {1, 2, 95, 96, 97, 959, 960}) {
            ColdStore store = Twins.steady(2000);
            store.addPallet(0, 0);
            store.order(0, 1, 0, due);
            store.order(0, 1, 0, due);
            Twins.passTo(store, due - 1);
            Check.same("38: one tick before", store.orderState(0), 'o');
            Check.same("3: due in this tick", store.pass(1), 1);
            Check.same("38: shipped at " + due, store.orderState(0), 's');
            Check.same("38: missed at " + due, store.orderState(1), 'm');
            Check.same("39: the life at " + due, store.leastShipped(0), 2000 - due);
        }
    }

    private static void dueInTheMiddleOfPass() {
        ColdStore store = Twins.steady(2000);
        for (int due : new int[] {1, 2, 95, 96, 97}) {
            store.addPallet(0, 0);
            store.order(0, 1, 0, due);
        }
        Check.same("3: those up to the end of the ticks", store.pass(96), 4);
        for (int order = 0; order < 4; order++) {
            Check.same("38: shipped", store.orderState(order), 's');
        }
        Check.same("38: one tick behind", store.orderState(4), 'o');
        Check.same("39: at its own time", store.leastShipped(0), 1999);
        Check.same("39: at its own time", store.leastShipped(3), 2000 - 96);
        Check.same("3: in the next tick", store.pass(1), 1);
        Check.same("3: none is left", store.pass(96), 0);
    }

    private static void dueAtTheLastTime() {
        ColdStore store = Twins.steady(2000);
        store.addPallet(0, 0);
        Twins.passTo(store, 959);
        store.order(0, 1, 0, 960);
        Check.same("3: the last tick", store.pass(1), 1);
        Check.same("38: shipped", store.orderState(0), 's');
        Check.refuses("33: no time is left", store, Twins.ILLEGAL, () -> store.order(0, 1, 0, 960));
        Check.refuses("3: no tick is left", store, Twins.STATE, () -> store.pass(1));
    }

    private static void justEnoughCandidates() {
        for (int count = 1; count <= 8; count++) {
            ColdStore store = Twins.steady(2000, 2000);
            for (int pallet = 0; pallet < count; pallet++) {
                store.addPallet(0, 0);
            }
            store.addPallet(1, 1);
            store.order(0, count, 0, 2);
            Check.same("3: just enough", store.pass(2), 1);
            Check.same("38: just enough", store.orderState(0), 's');
            for (int pallet = 0; pallet < count; pallet++) {
                store.addPallet(0, 0);
            }
            store.scrap(count + 1);
            store.order(0, count, 0, 4);
            Check.same("3: one too few", store.pass(2), 0);
            Check.same("38: one too few", store.orderState(1), 'm');
            Check.same("13: none is shipped for a missed one", store.freeSpace(0), 8 - count + 1);
        }
    }

    private static void justEnoughLife() {
        ColdStore store = Twins.steady(100);
        store.addPallet(0, 0);
        store.order(0, 1, 91, 10);
        store.order(0, 1, 90, 10);
        Check.same("3: at its end, the life is 90", store.pass(10), 1);
        Check.same("38: one more is promised", store.orderState(0), 'm');
        Check.same("38: as much is promised", store.orderState(1), 's');
    }

    private static void dueInTheOrderOfNumbers() {
        ColdStore store = Twins.steady(100);
        for (int pallet = 0; pallet < 5; pallet++) {
            store.addPallet(0, 0);
        }
        store.order(0, 2, 0, 3);
        store.order(0, 2, 0, 2);
        store.order(0, 2, 0, 3);
        store.order(0, 1, 0, 3);
        Check.same("3: two earlier, then the first and the last", store.pass(3), 3);
        Check.same("38: shipped", store.orderState(0), 's');
        Check.same("38: shipped", store.orderState(1), 's');
        Check.same("38: one is too few after the others", store.orderState(2), 'm');
        Check.same("38: but enough for the last", store.orderState(3), 's');
    }

    private static void closedOrdersAreLeft() {
        ColdStore store = Twins.steady(100);
        for (int pallet = 0; pallet < 8; pallet++) {
            store.addPallet(0, 0);
        }
        store.order(0, 1, 0, 2);
        store.order(0, 1, 0, 2);
        store.order(0, 1, 0, 2);
        store.cancel(0);
        store.ship(1);
        Check.same("3: only the open one", store.pass(2), 1);
        Check.same("38: cancelled", store.orderState(0), 'c');
        Check.same("38: shipped before", store.orderState(1), 's');
        Check.same("39: shipped before", store.leastShipped(1), 100);
        Check.same("13: two are gone", store.freeSpace(0), 2);
    }
}
