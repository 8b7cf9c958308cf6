import java.util.function.ObjIntConsumer;
import java.util.function.Supplier;

/** Each number that a call takes: the last one that is taken and the first one that is refused, on both sides. */
public final class RangesTest {
    public static void main(String[] args) {
        ticksToPass();
        outside();
        roomNumbers();
        limits();
        modes();
        leads();
        prices();
        chargeAndPowerLimit();
        kindNumbers();
        ticksOfForecast();
        orderNumbers();
        dueTimes();
        rooms();
        kinds();
        pallets();
        orders();
        candidateIndexes();
        Check.end();
    }

    private static void range(String what, int least, int most, ObjIntConsumer<ColdStore> call) {
        range(what, Twins::busy, Twins.ILLEGAL, least, most, call);
    }

    /** Takes least and most, and refuses the numbers next to them and the farthest ones; most may be less than least. */
    private static void range(String what, Supplier<ColdStore> maker, Class<?> due, int least, int most,
                              ObjIntConsumer<ColdStore> call) {
        if (least <= most) {
            Twins.taken(what + ": the least, " + least, maker, store -> call.accept(store, least));
            Twins.taken(what + ": the most, " + most, maker, store -> call.accept(store, most));
        }
        for (int wrong : new int[] {least - 1, most + 1, Integer.MIN_VALUE, Integer.MAX_VALUE}) {
            Twins.refused(what + ": " + wrong, maker, due, store -> call.accept(store, wrong));
        }
    }

    private static void ticksToPass() {
        range("3: ticks, 1 to 96", 1, 96, (store, n) -> store.pass(n));
        ColdStore store = Twins.busy();
        store.pass(96);
        Check.same("3: 96 ticks have passed", store.now(), 98);
        store.pass(1);
        Check.same("3: 1 tick has passed", store.now(), 99);
    }

    private static void outside() {
        range("4: outside, -300 to 450", -300, 450, (store, n) -> store.setOutside(n));
        ColdStore store = Twins.busy();
        store.setOutside(450);
        store.addRoom(50, 1, 1);
        Check.same("4: the warmest holds", store.temperature(3), 450);
        store.setMode(3, 'n');
        Check.same("4: the warmest is the previous one", store.setOutside(-300), 450);
        store.pass(1);
        Check.same("4: the coldest holds", store.temperature(3), 75);
        Check.same("4: the coldest is the previous one", store.setOutside(0), -300);
    }

    private static void roomNumbers() {
        range("5: leak, 1 to 50", 1, 50, (store, n) -> store.addRoom(n, 10, 10));
        range("5: strength, 1 to 100", 1, 100, (store, n) -> store.addRoom(10, n, 10));
        range("5: power, 1 to 100", 1, 100, (store, n) -> store.addRoom(10, 10, n));
        ColdStore store = new ColdStore();
        store.addRoom(1, 1, 1);
        store.addRoom(50, 100, 100);
        store.setMode(0, 'o');
        store.setMode(1, 'o');
        store.setOutside(450);
        store.pass(1);
        Check.same("5: the least leak and strength hold", store.temperature(0), 250 + 2 - 1);
        Check.same("5: the greatest leak and strength hold", store.temperature(1), 250 + 100 - 100);
        Check.same("5: the least and the greatest power hold", store.power(), 101);
    }

    private static void limits() {
        range("6: lower, -300 to 300", -300, 300, (store, n) -> store.setLimits(0, n, 300));
        for (int lower : new int[] {-300, 0, 299, 300}) {
            range("6: upper, " + lower + " to 300", lower, 300, (store, n) -> store.setLimits(0, lower, n));
        }
        for (int wrong : new int[] {-301, 301}) {
            Twins.refused("6: lower too, upper alone would do", Twins::busy, Twins.ILLEGAL,
                store -> store.setLimits(1, wrong, 300));
        }
        ColdStore store = Twins.busy();
        Check.same("6: the previous lower limit", store.setLimits(0, -300, -300), 10);
        Check.same("6: the least lower limit holds", store.setLimits(0, 300, 300), -300);
        Check.same("6: the greatest lower limit holds", store.setLimits(0, 0, 0), 300);
    }

    private static void modes() {
        for (char mode : new char[] {'a', 'o', 'n'}) {
            Twins.taken("7: mode " + mode, Twins::busy, store -> store.setMode(0, mode));
        }
        for (char mode : new char[] {'`', 'b', 'm', 'p', 'A', 'O', 'N', 0, Character.MAX_VALUE, 'a' + 256}) {
            Twins.refused("7: mode " + (int) mode, Twins::busy, Twins.ILLEGAL, store -> store.setMode(1, mode));
        }
        ColdStore store = Twins.busy();
        int taken = 0;
        for (int mode = 0; mode <= Character.MAX_VALUE; mode++) {
            try {
                store.setMode(0, (char) mode);
                taken++;
            } catch (IllegalArgumentException e) {
                continue;
            }
        }
        Check.same("7: three modes of all characters", taken, 3);
    }

    private static void leads() {
        range("8: ticks, 0 to 16", 0, 16, (store, n) -> store.setLead(0, n, 50));
        range("8: depth, 0 to 100", 0, 100, (store, n) -> store.setLead(0, 8, n));
        ColdStore store = Twins.busy();
        Check.same("8: the previous ticks", store.setLead(0, 16, 0), 3);
        Check.same("8: the most ticks hold", store.setLead(0, 0, 100), 16);
        Check.same("8: the least ticks hold", store.setLead(0, 1, 1), 0);
    }

    private static void prices() {
        range("14: normal, 0 to 1000", 0, 1000, (store, n) -> store.setPrices(n, 5, 3, 4));
        range("14: peak, 0 to 1000", 0, 1000, (store, n) -> store.setPrices(5, n, 3, 4));
        range("14: first, 0 to 95", 0, 95, (store, n) -> store.setPrices(5, 50, n, 95));
        for (int first : new int[] {0, 1, 40, 94, 95}) {
            range("14: last, " + first + " to 95", first, 95, (store, n) -> store.setPrices(5, 50, first, n));
        }
        for (int first : new int[] {-1, 96}) {
            Twins.refused("14: first too, last alone would do", Twins::busy, Twins.ILLEGAL,
                store -> store.setPrices(5, 50, first, 95));
        }
        ColdStore store = Twins.withRooms(1);
        store.setMode(0, 'o');
        Check.same("14: the previous price", store.setPrices(1000, 0, 1, 1), 10);
        store.pass(1);
        Check.same("14: the greatest normal price holds", store.bill(), 40_000);
        store.pass(1);
        Check.same("14: the least price in the peak holds", store.bill(), 40_000);
        Check.same("14: the greatest normal price is the previous one", store.setPrices(0, 1000, 3, 3), 1000);
        store.pass(1);
        Check.same("14: the least normal price holds", store.bill(), 40_000);
        store.pass(1);
        Check.same("14: the greatest price in the peak holds", store.bill(), 80_000);
        Check.same("14: the least normal price is the previous one", store.setPrices(1, 1, 0, 0), 0);
    }

    private static void chargeAndPowerLimit() {
        range("15: charge, 0 to 1000", 0, 1000, (store, n) -> store.setCharge(n));
        range("16: power limit, 0 to 400", 0, 400, (store, n) -> store.setPowerLimit(n));
        ColdStore store = Twins.busy();
        Check.same("15: the previous charge", store.setCharge(1000), 13);
        Check.same("15: the greatest charge holds", store.setCharge(0), 1000);
        Check.same("15: the least charge holds", store.setCharge(1), 0);
        Check.same("16: the previous limit", store.setPowerLimit(400), 95);
        Check.same("16: the greatest limit holds", store.setPowerLimit(0), 400);
        Check.same("16: the least limit holds", store.setPowerLimit(1), 0);
    }

    private static void kindNumbers() {
        range("21: life, 1 to 9999", 1, 9999, (store, n) -> store.addKind(n, 0, -10));
        range("21: best, -300 to 300", -300, 300, (store, n) -> store.addKind(10, n, -400));
        for (int best : new int[] {-300, 0, 300}) {
            range("21: lowest, -400 to " + (best - 1), -400, best - 1, (store, n) -> store.addKind(10, best, n));
        }
        Twins.refused("21: best at the bound of int", Twins::busy, Twins.ILLEGAL,
            store -> store.addKind(10, Integer.MIN_VALUE, Integer.MAX_VALUE));
        ColdStore store = Twins.busy();
        store.addKind(1, 300, 299);
        store.addKind(9999, -300, -400);
        Check.same("21: the least life holds", store.life(store.addPallet(2, 0)), 1);
        Check.same("21: the greatest life holds", store.life(store.addPallet(3, 0)), 9999);
    }

    private static void ticksOfForecast() {
        range("30: ticks, 0 to 960", 0, 960, (store, n) -> store.forecast(0, n));
        for (int time : new int[] {959, 960}) {
            range("30: ticks, 0 to 960 at " + time, () -> Twins.busyAt(time), Twins.ILLEGAL, 0, 960,
                (store, n) -> store.forecast(2, n));
        }
    }

    private static void orderNumbers() {
        range("33: count, 1 to 8", 1, 8, (store, n) -> store.order(0, n, 50, 20));
        range("33: promise, 0 to 9999", 0, 9999, (store, n) -> store.order(0, 1, n, 20));
        ColdStore store = Twins.withPallets(8);
        store.order(0, 8, 0, 960);
        Check.same("33: the most pallets", store.ship(0), 8 * 500);
        store.addPallet(0, 0);
        store.order(0, 1, 9999, 960);
        Check.same("33: the greatest promise", store.candidates(1), 0);
    }

    private static void dueTimes() {
        range("33: due at 0, 1 to 960", () -> Twins.withOrders(1), Twins.ILLEGAL, 1, 960,
            (store, n) -> store.order(0, 1, 50, n));
        range("33: due at 2, 3 to 960", 3, 960, (store, n) -> store.order(0, 1, 50, n));
        range("33: due at 96, 97 to 960", () -> Twins.busyAt(96), Twins.ILLEGAL, 97, 960,
            (store, n) -> store.order(0, 1, 50, n));
        range("33: due at 959, 960 alone", () -> Twins.busyAt(959), Twins.ILLEGAL, 960, 960,
            (store, n) -> store.order(0, 1, 50, n));
        range("33: due at 960, never", () -> Twins.busyAt(960), Twins.ILLEGAL, 961, 960,
            (store, n) -> store.order(0, 1, 50, n));
    }

    private static void rooms() {
        for (int rooms : new int[] {0, 1, 4}) {
            Supplier<ColdStore> maker = () -> Twins.withRooms(rooms);
            indexRange("6: room", maker, rooms, (store, n) -> store.setLimits(n, 0, 10));
            indexRange("7: room", maker, rooms, (store, n) -> store.setMode(n, 'n'));
            indexRange("8: room", maker, rooms, (store, n) -> store.setLead(n, 5, 10));
            indexRange("9: room", maker, rooms, (store, n) -> store.temperature(n));
            indexRange("10: room", maker, rooms, (store, n) -> store.isCooled(n));
            indexRange("13: room", maker, rooms, (store, n) -> store.freeSpace(n));
            Supplier<ColdStore> later = () -> {
                ColdStore store = Twins.withRooms(rooms);
                store.pass(1);
                return store;
            };
            indexRange("11: room", later, rooms, (store, n) -> store.warmest(n));
            indexRange("12: room", later, rooms, (store, n) -> store.meanTemperature(n));
        }
        indexRange("22: room", Twins::busy, 3, (store, n) -> store.addPallet(0, n));
        indexRange("22: room", () -> Twins.withKinds(1), 4, (store, n) -> store.addPallet(0, n));
        indexRange("23: room", Twins::busy, 3, (store, n) -> store.movePallet(0, n));
        indexRange("23: room", () -> Twins.withPallets(1), 4, (store, n) -> store.movePallet(0, n));
    }

    private static void indexRange(String what, Supplier<ColdStore> maker, int some, ObjIntConsumer<ColdStore> call) {
        range(what + " of " + some, maker, Twins.INDEX, 0, some - 1, call);
    }

    private static void kinds() {
        for (int kinds : new int[] {0, 1, 5}) {
            Supplier<ColdStore> maker = () -> Twins.withKinds(kinds);
            indexRange("22: kind", maker, kinds, (store, n) -> store.addPallet(n, 3));
            indexRange("33: kind", maker, kinds, (store, n) -> store.order(n, 1, 0, 20));
        }
    }

    private static void pallets() {
        for (int pallets : new int[] {0, 1, 24}) {
            Supplier<ColdStore> maker = () -> Twins.withPallets(pallets);
            indexRange("23: pallet", maker, pallets, (store, n) -> store.movePallet(n, 3));
            indexRange("24: pallet", maker, pallets, (store, n) -> store.scrap(n));
            indexRange("26: pallet", maker, pallets, (store, n) -> store.state(n));
            indexRange("27: pallet", maker, pallets, (store, n) -> store.roomOf(n));
            indexRange("28: pallet", maker, pallets, (store, n) -> store.life(n));
            indexRange("29: pallet", maker, pallets, (store, n) -> store.lifeByRecords(n));
            indexRange("30: pallet", maker, pallets, (store, n) -> store.forecast(n, 5));
        }
    }

    private static void orders() {
        for (int orders : new int[] {0, 1, 12}) {
            Supplier<ColdStore> maker = () -> Twins.withOrders(orders);
            indexRange("34: order", maker, orders, (store, n) -> store.cancel(n));
            indexRange("35: order", maker, orders, (store, n) -> store.candidates(n));
            indexRange("36: order", maker, orders, (store, n) -> store.candidateAt(n, 0));
            indexRange("38: order", maker, orders, (store, n) -> store.orderState(n));
        }
        Supplier<ColdStore> shippable = () -> {
            ColdStore store = Twins.withPallets(12);
            for (int order = 0; order < 12; order++) {
                store.order(0, 1, 100, 10 + order);
            }
            return store;
        };
        indexRange("37: order", shippable, 12, (store, n) -> store.ship(n));
        indexRange("37: order", () -> Twins.withOrders(1), 1, (store, n) -> store.ship(n));
        indexRange("37: order", () -> Twins.withOrders(0), 0, (store, n) -> store.ship(n));
        Supplier<ColdStore> shipped = () -> {
            ColdStore store = shippable.get();
            for (int order = 0; order < 12; order++) {
                store.ship(order);
            }
            return store;
        };
        indexRange("39: order", shipped, 12, (store, n) -> store.leastShipped(n));
        indexRange("39: order", () -> Twins.withOrders(0), 0, (store, n) -> store.leastShipped(n));
    }

    private static void candidateIndexes() {
        for (int pallets : new int[] {0, 1, 2, 24}) {
            Supplier<ColdStore> maker = () -> {
                ColdStore store = Twins.withPallets(pallets);
                store.order(0, 8, 0, 20);
                return store;
            };
            range("36: index of " + pallets, maker, Twins.NONE, 0, pallets - 1, (store, n) -> store.candidateAt(0, n));
        }
    }
}
