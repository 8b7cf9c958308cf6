/** Nothing there yet, just enough, and no room for one more. */
public final class EmptyAndFullTest {
    public static void main(String[] args) {
        nothingYet();
        firstSettings();
        storesApart();
        fourRooms();
        fiveKinds();
        twentyFourPallets();
        goneOnesCount();
        eightPalletsInARoom();
        spaceThatIsFreed();
        moveIntoFullRoom();
        twelveOrders();
        closedOnesCount();
        noTickYet();
        noTickAtTheEnd();
        notCooledYet();
        powerBeforeAndAfter();
        noPalletInARoom();
        leastLifeOfAll();
        shareOfTheLost();
        shareOfAllPallets();
        noCandidates();
        candidatesOneByOne();
        openOrdersAfterwards();
        justEnoughToShip();
        shippedWheneverDue();
        leastOfTheShipped();
        newestPallet();
        Check.end();
    }

    private static void nothingYet() {
        ColdStore store = new ColdStore();
        Check.same("2: now", store.now(), 0);
        Check.same("17: power", store.power(), 0);
        Check.same("18: greatest power", store.greatestPower(), 0);
        Check.same("19: bill", store.bill(), 0);
        Check.same("20: bill", store.billByRecords(), 0);
        Check.same("25: pallets", store.pallets(), 0);
        Check.holds("40", store.isConsistent());
        Twins.refused("31: no pallet at all", ColdStore::new, Twins.NONE, s -> s.soonest());
        Twins.refused("32: no pallet at all", ColdStore::new, Twins.ARITHMETIC, s -> s.lostShare());
        Check.same("3: no order", store.pass(1), 0);
    }

    private static void firstSettings() {
        ColdStore store = new ColdStore();
        Check.same("1: outside", store.setOutside(1), 250);
        Check.same("14: normal price", store.setPrices(1, 1, 1, 1), 10);
        Check.same("15: charge", store.setCharge(1), 0);
        Check.same("16: power limit", store.setPowerLimit(1), 400);
        store.addRoom(1, 1, 1);
        Check.same("5: as outside", store.temperature(0), 1);
        Check.same("5: lower limit", store.setLimits(0, 1, 1), 20);
        Check.same("5: mode", store.setMode(0, 'o'), 'a');
        Check.same("5: lead", store.setLead(0, 1, 1), 0);
        Check.same("5: space", store.freeSpace(0), 8);
    }

    private static void storesApart() {
        ColdStore other = Twins.busyAt(200);
        other.setOutside(-5);
        Check.same("1: the next store is new", Snapshot.of(new ColdStore()), "now 0 power 0 0 bill 0 0 consistent true");
        String before = Snapshot.of(other);
        Twins.busyAt(40).setCharge(77);
        Check.same("1: a store is changed by its own calls alone", Snapshot.of(other), before);
    }

    private static void fourRooms() {
        ColdStore store = new ColdStore();
        for (int room = 0; room < 4; room++) {
            int next = room;
            Check.refuses("9: not yet", store, Twins.INDEX, () -> store.temperature(next));
            Check.same("5: the next number", store.addRoom(10, 10, 10), room);
        }
        Twins.refused("5: there are 4 rooms", () -> Twins.withRooms(4), Twins.STATE, s -> s.addRoom(10, 10, 10));
        Twins.refused("5: there are 4 rooms", Twins::full, Twins.STATE, s -> s.addRoom(1, 1, 1));
        Twins.refused("5: there are 4 rooms", Twins::full, Twins.STATE, s -> s.addRoom(50, 100, 100));
        Twins.taken("5: the last room", () -> Twins.withRooms(3), s -> s.addRoom(10, 10, 10));
    }

    private static void fiveKinds() {
        ColdStore store = new ColdStore();
        for (int kind = 0; kind < 5; kind++) {
            Check.same("21: the next number", store.addKind(10, 10, 0), kind);
        }
        Twins.refused("21: there are 5 kinds", () -> Twins.withKinds(5), Twins.STATE, s -> s.addKind(1, -300, -400));
        Twins.refused("21: there are 5 kinds", Twins::full, Twins.STATE, s -> s.addKind(9999, 300, 299));
        Twins.taken("21: the last kind", () -> Twins.withKinds(4), s -> s.addKind(10, 10, 0));
    }

    private static void twentyFourPallets() {
        ColdStore store = Twins.withPallets(0);
        for (int pallet = 0; pallet < 24; pallet++) {
            Check.same("25: the pallets up to now", store.pallets(), pallet);
            Check.same("22: the next number", store.addPallet(0, pallet % 4), pallet);
        }
        Check.same("25: all pallets", store.pallets(), 24);
        Check.refuses("22: there are 24 pallets", store, Twins.STATE, () -> store.addPallet(0, 0));
        Twins.refused("22: there are 24 pallets, though a room is empty", Twins::full, Twins.STATE,
            s -> s.addPallet(0, 3));
        Twins.refused("22: there are 24 pallets, and the room is full", Twins::full, Twins.STATE,
            s -> s.addPallet(0, 0));
        Twins.taken("22: the last pallet", () -> Twins.withPallets(23), s -> s.addPallet(0, 2));
    }

    private static void goneOnesCount() {
        ColdStore store = Twins.full();
        store.scrap(5);
        store.ship(0);
        Check.same("25: shipped and scrapped ones included", store.pallets(), 24);
        for (int room = 0; room < 4; room++) {
            int asked = room;
            Check.refuses("22: 24 with those that are gone", store, Twins.STATE, () -> store.addPallet(0, asked));
        }
        for (int pallet = 0; pallet < 24; pallet++) {
            if (store.state(pallet) == 'r') {
                store.scrap(pallet);
            }
        }
        Check.same("13: all rooms are empty", store.freeSpace(0) + store.freeSpace(1) + store.freeSpace(2), 24);
        Check.refuses("22: 24, and none in a room", store, Twins.STATE, () -> store.addPallet(0, 0));
        Check.same("25: all are gone", store.pallets(), 24);
    }

    private static void eightPalletsInARoom() {
        ColdStore store = Twins.withPallets(0);
        for (int free = 8; free > 0; free--) {
            Check.same("13: space for as many more", store.freeSpace(1), free);
            store.addPallet(0, 1);
        }
        Check.same("13: no more", store.freeSpace(1), 0);
        Check.same("13: the room before", store.freeSpace(0), 8);
        Check.same("13: the room behind", store.freeSpace(2), 8);
        Twins.refused("22: the room is full", () -> Twins.withPallets(8), Twins.STATE, s -> s.addPallet(0, 0));
        Twins.taken("22: space for one", () -> Twins.withPallets(7), s -> s.addPallet(0, 0));
        Twins.taken("22: the next room is empty", () -> Twins.withPallets(8), s -> s.addPallet(0, 1));
        Check.same("25: the refused one is not counted", store.pallets(), 8);
    }

    private static void spaceThatIsFreed() {
        ColdStore moved = Twins.withPallets(8);
        moved.movePallet(7, 1);
        Check.same("13: one was moved away", moved.freeSpace(0), 1);
        Check.same("22: into its place", moved.addPallet(0, 0), 8);
        Check.refuses("22: full again", moved, Twins.STATE, () -> moved.addPallet(0, 0));
        Check.refuses("23: there is no way back", moved, Twins.STATE, () -> moved.movePallet(7, 0));
        ColdStore scrapped = Twins.withPallets(8);
        scrapped.scrap(0);
        Check.same("13: one was scrapped", scrapped.freeSpace(0), 1);
        Check.same("22: into its place", scrapped.addPallet(0, 0), 8);
        Check.refuses("22: full again", scrapped, Twins.STATE, () -> scrapped.addPallet(0, 0));
        ColdStore shipped = Twins.withPallets(8);
        shipped.order(0, 1, 0, 1);
        shipped.pass(1);
        Check.same("13: one was shipped", shipped.freeSpace(0), 1);
        Check.same("22: into its place", shipped.addPallet(0, 0), 8);
        Check.refuses("22: full again", shipped, Twins.STATE, () -> shipped.addPallet(0, 0));
    }

    private static void moveIntoFullRoom() {
        Twins.refused("23: the room is another one and full", Twins::full, Twins.STATE, s -> s.movePallet(23, 0));
        Twins.taken("23: the same room, though full", Twins::full, s -> s.movePallet(23, 2));
        Twins.taken("23: another room with space for one", () -> Twins.withPallets(15), s -> s.movePallet(0, 1));
        Twins.refused("23: another room with space for none", () -> Twins.withPallets(16), Twins.STATE,
            s -> s.movePallet(0, 1));
        ColdStore store = Twins.full();
        Check.same("23: it is left where it is", store.movePallet(23, 2), 2);
        Check.same("27: it is left where it is", store.roomOf(23), 2);
        Check.same("13: it is left where it is", store.freeSpace(2), 0);
        Check.same("23: the previous room", store.movePallet(23, 3), 2);
        Check.same("27: the new room", store.roomOf(23), 3);
        Check.same("23: the previous room", store.movePallet(0, 2), 0);
        Check.refuses("23: full again", store, Twins.STATE, () -> store.movePallet(23, 2));
        Check.same("23: one place is free", store.movePallet(23, 0), 3);
    }

    private static void twelveOrders() {
        ColdStore store = Twins.withOrders(0);
        for (int order = 0; order < 12; order++) {
            Check.same("33: the next number", store.order(0, 1, 0, 1), order);
        }
        Twins.refused("33: there are 12 orders", Twins::full, Twins.STATE, s -> s.order(0, 1, 0, 1));
        Twins.refused("33: there are 12 orders", Twins::full, Twins.STATE, s -> s.order(4, 8, 9999, 960));
        Twins.taken("33: the last order", () -> Twins.withOrders(11), s -> s.order(0, 1, 0, 1));
    }

    private static void closedOnesCount() {
        ColdStore store = Twins.withOrders(12);
        store.cancel(11);
        Check.refuses("33: with a cancelled one", store, Twins.STATE, () -> store.order(0, 1, 0, 5));
        store.ship(0);
        Check.refuses("33: with a shipped one", store, Twins.STATE, () -> store.order(0, 1, 0, 5));
        store.pass(96);
        Check.same("38: missed", store.orderState(10), 'm');
        Check.refuses("33: with missed ones, and none open", store, Twins.STATE, () -> store.order(0, 1, 0, 200));
    }

    private static void noTickYet() {
        for (int time : new int[] {0, 1, 96, 959}) {
            ColdStore store = new ColdStore();
            store.addRoom(50, 1, 1);
            store.setMode(0, 'n');
            Twins.passTo(store, time);
            store.setOutside(60);
            store.addRoom(50, 1, 1);
            store.setMode(1, 'n');
            Check.refuses("11: no tick since it was added", store, Twins.NONE, () -> store.warmest(1));
            Check.refuses("12: no tick since it was added", store, Twins.ARITHMETIC, () -> store.meanTemperature(1));
            store.setOutside(40);
            store.pass(1);
            Check.same("11: one tick since it was added", store.warmest(1), 50);
            Check.sameDouble("12: one tick since it was added", store.meanTemperature(1), 50.0);
            Check.same("11: not as warm as at the beginning", store.warmest(0), time == 0 ? 145 : 250);
        }
    }

    private static void noTickAtTheEnd() {
        ColdStore store = Twins.busyAt(960);
        store.addRoom(1, 1, 1);
        Check.refuses("11: there will be none", store, Twins.NONE, () -> store.warmest(3));
        Check.refuses("12: there will be none", store, Twins.ARITHMETIC, () -> store.meanTemperature(3));
        Check.holds("10: there will be none", !store.isCooled(3));
        Check.same("30: what would be after 960", store.forecast(2, 1), Math.max(0, store.life(2) - 1));
        ColdStore longest = Twins.withRooms(1);
        longest.setMode(0, 'n');
        Twins.passTo(longest, 960);
        Check.sameDouble("12: all ticks", longest.meanTemperature(0), 250.0);
        Check.same("11: all ticks", longest.warmest(0), 250);
    }

    private static void notCooledYet() {
        ColdStore store = Twins.withRooms(2);
        Check.holds("10: before the first tick of all", !store.isCooled(0));
        store.setMode(0, 'o');
        Check.holds("10: the mode alone does not cool", !store.isCooled(0));
        store.pass(1);
        store.addRoom(10, 30, 40);
        store.setMode(2, 'o');
        Check.holds("10: before the first tick since it was added", !store.isCooled(2));
        store.pass(1);
        Check.holds("10: in the first tick since it was added", store.isCooled(2));
        store.setMode(2, 'n');
        store.pass(2);
        Check.holds("10: the latest tick alone counts", !store.isCooled(2));
    }

    private static void powerBeforeAndAfter() {
        ColdStore store = Twins.withRooms(2);
        store.setCharge(1000);
        Check.same("17: no tick", store.power(), 0);
        Check.same("18: no tick", store.greatestPower(), 0);
        Check.same("19: no tick, though there is a charge", store.bill(), 0);
        Check.same("20: no tick, though there is a charge", store.billByRecords(), 0);
        store.setCharge(0);
        store.pass(1);
        Check.same("17: one tick", store.power(), 80);
        Check.same("18: one tick", store.greatestPower(), 80);
        store.setMode(1, 'n');
        store.pass(1);
        Check.same("17: less in the latest tick", store.power(), 40);
        Check.same("18: the greatest stays", store.greatestPower(), 80);
        store.setMode(0, 'n');
        store.pass(1);
        Check.same("17: none in the latest tick", store.power(), 0);
        Check.same("18: the greatest stays", store.greatestPower(), 80);
        store.addRoom(1, 1, 41);
        store.setMode(0, 'o');
        store.pass(1);
        Check.same("18: one more", store.greatestPower(), 81);
        store.setCharge(1);
        Check.same("19: the charge for the greatest", store.bill(), 10 * (80 + 40 + 81) + 81);
        Check.same("20: the charge for the greatest", store.billByRecords(), 10 * (80 + 40 + 81) + 81);
    }

    private static void noPalletInARoom() {
        Twins.refused("31: all are scrapped or shipped", EmptyAndFullTest::allGone, Twins.NONE, s -> s.soonest());
        for (int pallet = 0; pallet < 3; pallet++) {
            int gone = pallet;
            Twins.refused("23: gone", EmptyAndFullTest::allGone, Twins.NONE, s -> s.movePallet(gone, 1));
            Twins.refused("23: gone, the same room", EmptyAndFullTest::allGone, Twins.NONE, s -> s.movePallet(gone, 0));
            Twins.refused("24: gone", EmptyAndFullTest::allGone, Twins.NONE, s -> s.scrap(gone));
            Twins.refused("27: gone", EmptyAndFullTest::allGone, Twins.NONE, s -> s.roomOf(gone));
            Twins.refused("30: gone", EmptyAndFullTest::allGone, Twins.NONE, s -> s.forecast(gone, 0));
        }
        ColdStore store = allGone();
        Check.same("26: scrapped", store.state(0), 'x');
        Check.same("26: shipped by hand", store.state(1), 's');
        Check.same("26: shipped in time", store.state(2), 's');
        Check.same("13: all are gone", store.freeSpace(0), 8);
        Check.same("22: a new one", store.addPallet(0, 0), 3);
        Check.same("31: the new one alone", store.soonest(), 3);
    }

    /** Three pallets: the first is scrapped, and the others are shipped, by a call and when it was due. */
    private static ColdStore allGone() {
        ColdStore store = Twins.withPallets(3);
        store.order(0, 1, 0, 50);
        store.order(0, 1, 0, 2);
        store.scrap(0);
        store.ship(0);
        store.pass(2);
        return store;
    }

    private static void leastLifeOfAll() {
        ColdStore store = Twins.withKinds(3);
        store.addPallet(2, 0);
        store.addPallet(1, 0);
        Check.same("31: one unit less", store.soonest(), 1);
        store.addPallet(1, 1);
        Check.same("31: of two the lowest number", store.soonest(), 1);
        store.scrap(1);
        Check.same("31: the next number", store.soonest(), 2);
        store.addPallet(0, 2);
        Check.same("31: one unit less, and the last number", store.soonest(), 3);
        ColdStore old = Twins.withPallets(3);
        Twins.passTo(old, 960);
        Check.same("28: no life", old.life(0) + old.life(1) + old.life(2), 0);
        Check.same("31: no life, the lowest number", old.soonest(), 0);
        old.scrap(0);
        Check.same("31: no life, the next number", old.soonest(), 1);
        old.addPallet(0, 0);
        Check.same("31: no life before full life", old.soonest(), 1);
    }

    private static void shareOfTheLost() {
        ColdStore store = Twins.withPallets(1);
        Check.sameDouble("32: none of one", store.lostShare(), 0.0);
        store.scrap(0);
        Check.sameDouble("32: one of one", store.lostShare(), 1.0);
        ColdStore last = new ColdStore();
        last.setOutside(30);
        last.addRoom(1, 1, 1);
        last.addKind(2, 30, 20);
        last.addPallet(0, 0);
        last.pass(1);
        Check.sameDouble("32: a life of 1 is not lost", last.lostShare(), 0.0);
        last.pass(1);
        Check.sameDouble("32: a life of 0 is lost", last.lostShare(), 1.0);
        last.scrap(0);
        Check.sameDouble("32: scrapped without life counts once", last.lostShare(), 1.0);
        last.addPallet(0, 0);
        last.addPallet(0, 0);
        Check.sameDouble("32: a third", last.lostShare(), (double) (1f / 3f));
        last.order(0, 1, 0, 10);
        last.ship(0);
        Check.sameDouble("32: shipped with life", last.lostShare(), (double) (1f / 3f));
        last.pass(2);
        last.order(0, 1, 0, 10);
        last.ship(1);
        Check.same("26: shipped without life", last.state(2), 's');
        Check.sameDouble("32: shipped without life", last.lostShare(), (double) (2f / 3f));
    }

    private static void shareOfAllPallets() {
        ColdStore store = Twins.withPallets(24);
        for (int pallet = 0; pallet < 24; pallet++) {
            Check.sameDouble("32: " + pallet + " of 24", store.lostShare(), (double) ((float) pallet / 24f));
            store.scrap(pallet);
        }
        Check.sameDouble("32: 24 of 24", store.lostShare(), 1.0);
    }

    private static void noCandidates() {
        ColdStore store = Twins.withKinds(2);
        store.order(0, 1, 0, 50);
        Check.same("35: no pallet", store.candidates(0), 0);
        Twins.refused("36: no pallet", () -> orderWithoutPallets(0), Twins.NONE, s -> s.candidateAt(0, 0));
        Twins.refused("37: no pallet", () -> orderWithoutPallets(0), Twins.UNABLE, s -> s.ship(0));
        store.addPallet(1, 0);
        Check.same("35: another kind", store.candidates(0), 0);
        Twins.refused("37: another kind", () -> orderWithoutPallets(1), Twins.UNABLE, s -> s.ship(0));
        store.addPallet(0, 0);
        Check.same("35: the kind", store.candidates(0), 1);
        store.scrap(1);
        Check.same("35: scrapped", store.candidates(0), 0);
        store.addPallet(0, 0);
        store.ship(0);
        Check.same("35: shipped", store.candidates(0), 0);
        Check.refuses("36: shipped", store, Twins.NONE, () -> store.candidateAt(0, 0));
    }

    private static ColdStore orderWithoutPallets(int othersPallets) {
        ColdStore store = Twins.withKinds(2);
        store.order(0, 1, 0, 50);
        for (int pallet = 0; pallet < othersPallets; pallet++) {
            store.addPallet(1, 0);
        }
        return store;
    }

    private static void candidatesOneByOne() {
        ColdStore store = new ColdStore();
        store.setOutside(30);
        store.addRoom(1, 1, 1);
        store.setOutside(60);
        store.addRoom(1, 1, 1);
        store.setMode(1, 'n');
        store.addKind(100, 30, 20);
        for (int room : new int[] {0, 1, 0, 1, 0}) {
            store.addPallet(0, room);
        }
        store.pass(1);
        int[] promises = {98, 99, 100, 0};
        int[] due = {5, 3, 0, 5};
        for (int order = 0; order < 4; order++) {
            store.order(0, 1, promises[order], 50);
            Check.same("35: not less than " + promises[order], store.candidates(order), due[order]);
        }
        int[] inOrder = {1, 3, 0, 2, 4};
        for (int index = 0; index < 5; index++) {
            Check.same("36: less life first, then the lower number", store.candidateAt(0, index), inOrder[index]);
        }
        Check.same("36: the first with 99", store.candidateAt(1, 0), 0);
        Check.same("36: the last with 99", store.candidateAt(1, 2), 4);
        Check.refuses("36: behind the last", store, Twins.NONE, () -> store.candidateAt(1, 3));
        for (int order = 0; order < 4; order++) {
            store.cancel(order);
            Check.same("35: whether it is open or not", store.candidates(order), due[order]);
        }
        Check.same("36: whether it is open or not", store.candidateAt(0, 4), 4);
    }

    private static void openOrdersAfterwards() {
        ColdStore store = Twins.withOrders(12);
        for (int left = 11; left >= 0; left--) {
            Check.same("34: open ones afterwards", store.cancel((left * 5) % 12), left);
        }
        for (int order = 0; order < 12; order++) {
            Check.same("38: cancelled", store.orderState(order), 'c');
            int cancelled = order;
            Check.refuses("34: not open", store, Twins.STATE, () -> store.cancel(cancelled));
        }
        ColdStore mixed = closedOrders();
        Check.same("34: neither shipped nor missed ones are open", mixed.cancel(4), 1);
        Check.same("34: the last one", mixed.cancel(3), 0);
    }

    /** The orders 0 to 2 are shipped, missed and cancelled; 3 and 4 are open; no pallet is left. */
    private static ColdStore closedOrders() {
        ColdStore store = Twins.withPallets(1);
        store.order(0, 1, 0, 1);
        store.order(0, 1, 0, 1);
        store.order(0, 1, 0, 50);
        store.order(0, 1, 0, 50);
        store.order(0, 1, 0, 50);
        store.cancel(2);
        store.pass(1);
        return store;
    }

    private static void justEnoughToShip() {
        for (int count = 1; count <= 8; count++) {
            int asked = count;
            Twins.refused("37: one too few", () -> orderOf(asked, asked - 1), Twins.UNABLE, s -> s.ship(0));
            ColdStore enough = orderOf(count, count);
            Check.same("37: just enough", enough.ship(0), 500 * count);
            Check.same("38: just enough", enough.orderState(0), 's');
            Check.same("13: none is left", enough.freeSpace(0), 8);
            ColdStore more = orderOf(count, count + 1);
            Check.same("37: one more than enough", more.ship(0), 500 * count);
            Check.same("26: the last candidate stays", more.state(count), 'r');
            Check.same("26: the one before it goes", more.state(count - 1), 's');
        }
        ColdStore refused = orderOf(2, 1);
        Check.refuses("37: one too few", refused, Twins.UNABLE, () -> refused.ship(0));
        refused.addPallet(0, 0);
        Check.same("37: it was left open", refused.ship(0), 1000);
    }

    private static ColdStore orderOf(int count, int pallets) {
        ColdStore store = Twins.withPallets(pallets);
        store.order(0, count, 500, 50);
        return store;
    }

    private static void shippedWheneverDue() {
        for (int due : new int[] {1, 2, 960}) {
            ColdStore store = Twins.withPallets(1);
            store.order(0, 1, 0, due);
            Check.same("37: whenever it is due", store.ship(0), 500);
            Check.same("3: not once more", store.pass(2), 0);
            Check.same("38: shipped", store.orderState(0), 's');
        }
        Twins.refused("37: cancelled", EmptyAndFullTest::closedOrders, Twins.STATE, s -> s.ship(2));
        Twins.refused("37: missed", EmptyAndFullTest::closedOrders, Twins.STATE, s -> s.ship(1));
        Twins.refused("37: shipped", EmptyAndFullTest::closedOrders, Twins.STATE, s -> s.ship(0));
        Twins.refused("34: cancelled", EmptyAndFullTest::closedOrders, Twins.STATE, s -> s.cancel(2));
        Twins.refused("34: missed", EmptyAndFullTest::closedOrders, Twins.STATE, s -> s.cancel(1));
        Twins.refused("34: shipped", EmptyAndFullTest::closedOrders, Twins.STATE, s -> s.cancel(0));
    }

    private static void leastOfTheShipped() {
        Twins.refused("39: missed", EmptyAndFullTest::closedOrders, Twins.NONE, s -> s.leastShipped(1));
        Twins.refused("39: cancelled", EmptyAndFullTest::closedOrders, Twins.NONE, s -> s.leastShipped(2));
        Twins.refused("39: open", EmptyAndFullTest::closedOrders, Twins.NONE, s -> s.leastShipped(3));
        ColdStore store = new ColdStore();
        store.setOutside(30);
        store.addRoom(1, 1, 1);
        store.addKind(100, 30, 20);
        store.addPallet(0, 0);
        store.pass(1);
        store.addPallet(0, 0);
        store.order(0, 2, 0, 50);
        store.order(0, 1, 0, 50);
        Check.same("37: the sum", store.ship(0), 199);
        Check.same("39: the least, not the last", store.leastShipped(0), 99);
        store.addPallet(0, 0);
        Twins.passTo(store, 101);
        Check.same("39: it stays", store.leastShipped(0), 99);
        Check.same("38: the other one was shipped meanwhile", store.orderState(1), 's');
        store.addPallet(0, 0);
        Twins.passTo(store, 301);
        store.order(0, 1, 0, 400);
        Check.same("37: no life", store.ship(2), 0);
        Check.same("39: no life", store.leastShipped(2), 0);
    }

    private static void newestPallet() {
        for (int time : new int[] {0, 1, 959, 960}) {
            ColdStore store = Twins.busyAt(time + 2 > 960 ? 960 : time + 2);
            int pallet = store.addPallet(0, 2);
            Check.same("28: the full life at " + time, store.life(pallet), 500);
            Check.same("29: the full life at " + time, store.lifeByRecords(pallet), 500);
            Check.same("30: the full life at " + time, store.forecast(pallet, 0), 500);
            Check.same("26: in a room at " + time, store.state(pallet), 'r');
            Check.same("27: in its room at " + time, store.roomOf(pallet), 2);
            Check.same("24: the full life at " + time, store.scrap(pallet), 500);
            Check.same("29: scrapped at once", store.lifeByRecords(pallet), 500);
        }
    }
}
