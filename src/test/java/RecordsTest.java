/** Life and bill by the records of all ticks: moves, prices and charges just before and just after a tick. */
public final class RecordsTest {
    /** What a pallet loses in a tick in the rooms 0 to 2 of the steady store. */
    private static final int[] LOSSES = {10, 1, 3};

    public static void main(String[] args) {
        eachWayThroughTheRooms();
        movesWithoutTicks();
        movesBeforeTheFirstTick();
        movesAfterTheLastTick();
        goneRightAfterAMove();
        lifeLostBeforeTheMove();
        roomsThatAreAddedLater();
        changingTemperatures();
        pricesJustBeforeATick();
        peakJustBeforeATick();
        chargeAfterTheTicks();
        dearestBill();
        Check.end();
    }

    /** Rooms that stay at 0, 50 and 100, a kind that loses as LOSSES tells, and one pallet in the room 1. */
    private static ColdStore steady(int life) {
        ColdStore store = new ColdStore();
        for (int room = 0; room < 3; room++) {
            store.setOutside(50 * room);
            store.addRoom(1, 1, 1);
            store.setMode(room, 'n');
        }
        store.setOutside(50);
        store.addKind(life, 50, 1);
        store.addPallet(0, 1);
        return store;
    }

    private static void bothLives(String what, ColdStore store, int due) {
        Check.same("28: " + what, store.life(0), due);
        Check.same("29: " + what, store.lifeByRecords(0), due);
        Check.holds("40: " + what, store.isConsistent());
    }

    private static void eachWayThroughTheRooms() {
        for (int way = 0; way < 729; way++) {
            ColdStore store = steady(1000);
            int due = 1000;
            int rest = way;
            for (int tick = 0; tick < 6; tick++) {
                store.movePallet(0, rest % 3);
                store.pass(1);
                due -= LOSSES[rest % 3];
                rest /= 3;
            }
            bothLives("way " + way, store, due);
        }
    }

    private static void movesWithoutTicks() {
        ColdStore store = steady(1000);
        store.pass(2);
        int previous = 1;
        for (int room : new int[] {0, 2, 0, 1, 1, 2, 1, 0, 0}) {
            Check.same("23: the previous room", store.movePallet(0, room), previous);
            bothLives("moved to " + room + ", and no tick has passed", store, 998);
            previous = room;
        }
        store.movePallet(0, 1);
        store.pass(1);
        bothLives("back in its room before the tick", store, 997);
        store.movePallet(0, 0);
        store.movePallet(0, 2);
        store.pass(1);
        bothLives("the last room before the tick counts", store, 994);
    }

    private static void movesBeforeTheFirstTick() {
        ColdStore store = steady(1000);
        store.movePallet(0, 2);
        bothLives("moved at once", store, 1000);
        store.movePallet(0, 0);
        store.pass(1);
        bothLives("the first room does not count", store, 990);
    }

    private static void movesAfterTheLastTick() {
        ColdStore store = steady(9999);
        Twins.passTo(store, 959);
        store.movePallet(0, 0);
        bothLives("one tick is left", store, 9999 - 959);
        store.pass(1);
        bothLives("the last tick", store, 9999 - 959 - 10);
        store.movePallet(0, 2);
        store.movePallet(0, 1);
        bothLives("no tick is left", store, 9999 - 959 - 10);
        store.scrap(0);
        bothLives("scrapped at the end", store, 9999 - 959 - 10);
    }

    private static void goneRightAfterAMove() {
        ColdStore scrapped = steady(1000);
        scrapped.pass(1);
        scrapped.movePallet(0, 0);
        Check.same("24: its life", scrapped.scrap(0), 999);
        scrapped.pass(5);
        bothLives("scrapped after a move", scrapped, 999);
        ColdStore shipped = steady(1000);
        shipped.order(0, 1, 0, 2);
        shipped.pass(1);
        shipped.movePallet(0, 0);
        Check.same("3: shipped in time", shipped.pass(5), 1);
        bothLives("shipped one tick after a move", shipped, 989);
        Check.same("39: one tick after a move", shipped.leastShipped(0), 989);
        ColdStore atOnce = steady(1000);
        Check.same("24: scrapped when it came", atOnce.scrap(0), 1000);
        atOnce.pass(96);
        bothLives("scrapped when it came", atOnce, 1000);
    }

    private static void lifeLostBeforeTheMove() {
        ColdStore store = steady(12);
        store.movePallet(0, 0);
        store.pass(1);
        bothLives("two are left", store, 2);
        store.pass(1);
        bothLives("none is left", store, 0);
        store.movePallet(0, 1);
        store.pass(96);
        bothLives("none comes back", store, 0);
        Check.same("27: it is moved all the same", store.roomOf(0), 1);
    }

    private static void roomsThatAreAddedLater() {
        ColdStore store = steady(9999);
        Twins.passTo(store, 500);
        store.setOutside(0);
        store.addRoom(1, 1, 1);
        store.setMode(3, 'n');
        store.setOutside(50);
        store.movePallet(0, 3);
        bothLives("in the new room, no tick yet", store, 9499);
        store.pass(1);
        bothLives("in the new room", store, 9489);
        store.movePallet(0, 1);
        store.pass(1);
        bothLives("back again", store, 9488);
    }

    private static void changingTemperatures() {
        ColdStore store = new ColdStore();
        store.setOutside(100);
        store.addRoom(50, 1, 1);
        store.setMode(0, 'n');
        store.addKind(1000, 50, 0);
        store.addPallet(0, 0);
        store.setOutside(60);
        store.pass(1);
        bothLives("30 more", store, 998);
        store.pass(1);
        bothLives("20 more", store, 996);
        store.setOutside(-70);
        store.pass(1);
        Check.same("9: 70 - 70", store.temperature(0), 0);
        bothLives("the lowest", store, 995);
        store.pass(1);
        bothLives("35 less", store, 985);
    }

    private static void bothBills(String what, ColdStore store, long due) {
        Check.same("19: " + what, store.bill(), due);
        Check.same("20: " + what, store.billByRecords(), due);
    }

    private static void pricesJustBeforeATick() {
        ColdStore store = new ColdStore();
        store.addRoom(1, 1, 2);
        store.setMode(0, 'o');
        store.setPrices(1000, 1000, 0, 95);
        store.setPrices(3, 5, 50, 60);
        bothBills("the last price before the tick counts, no tick yet", store, 0);
        store.pass(1);
        bothBills("the last price before the tick counts", store, 6);
        store.setPrices(1000, 1000, 0, 95);
        bothBills("not for the tick that has passed", store, 6);
        store.setPrices(4, 1000, 95, 95);
        store.pass(1);
        bothBills("the next tick", store, 14);
    }

    private static void peakJustBeforeATick() {
        ColdStore store = new ColdStore();
        store.addRoom(1, 1, 2);
        store.setMode(0, 'o');
        long due = 0;
        for (int quarter = 0; quarter < 18; quarter++) {
            boolean isPeak = quarter < 6;
            boolean isBefore = quarter >= 12;
            int first = isPeak ? quarter : isBefore ? quarter + 1 : 0;
            int last = isPeak ? quarter : isBefore ? 95 : quarter - 1;
            store.setPrices(1, 7, first, last);
            store.pass(1);
            due += isPeak ? 14 : 2;
            bothBills("peak " + first + " to " + last + " in the quarter " + quarter, store, due);
            store.setPrices(1, 7, isPeak ? 90 : 0, 95);
            bothBills("the peak is changed when the quarter " + quarter + " has passed", store, due);
        }
    }

    private static void chargeAfterTheTicks() {
        ColdStore store = Twins.withRooms(2);
        store.pass(1);
        store.setMode(0, 'n');
        store.pass(1);
        long costs = 10 * (80 + 40);
        bothBills("no charge", store, costs);
        for (int charge : new int[] {1, 1000, 999, 0}) {
            store.setCharge(charge);
            bothBills("the present charge, " + charge, store, costs + 80L * charge);
        }
    }

    private static void dearestBill() {
        ColdStore store = new ColdStore();
        for (int room = 0; room < 4; room++) {
            store.addRoom(1, 1, 100);
            store.setMode(room, 'o');
        }
        store.setPrices(1000, 1000, 0, 95);
        store.setCharge(1000);
        bothBills("no tick yet", store, 0);
        store.pass(1);
        bothBills("one tick", store, 400_000 + 400_000);
        Twins.passTo(store, 960);
        bothBills("all ticks", store, 960 * 400_000L + 400_000);
    }
}
