import java.util.NoSuchElementException;

/** A text of everything that can be asked of a store without changing it. */
final class Snapshot {
    private Snapshot() {
    }

    static String of(ColdStore store) {
        StringBuilder text = new StringBuilder();
        text.append("now ").append(store.now());
        text.append(" power ").append(store.power()).append(' ').append(store.greatestPower());
        text.append(" bill ").append(store.bill()).append(' ').append(store.billByRecords());
        addRooms(store, text);
        addPallets(store, text);
        addOrders(store, text);
        return text.append(" consistent ").append(store.isConsistent()).toString();
    }

    private static void addRooms(ColdStore store, StringBuilder text) {
        for (int room = 0; hasRoom(store, room); room++) {
            text.append(" | room ").append(store.temperature(room));
            text.append(' ').append(store.isCooled(room)).append(' ').append(store.freeSpace(room));
            try {
                text.append(' ').append(store.warmest(room)).append(' ').append(store.meanTemperature(room));
            } catch (NoSuchElementException e) {
                text.append(" no tick");
            }
        }
    }

    private static boolean hasRoom(ColdStore store, int room) {
        try {
            store.temperature(room);
            return true;
        } catch (IndexOutOfBoundsException e) {
            return false;
        }
    }

    private static void addPallets(ColdStore store, StringBuilder text) {
        for (int pallet = 0; pallet < store.pallets(); pallet++) {
            text.append(" | pallet ").append(store.state(pallet));
            text.append(' ').append(store.life(pallet)).append(' ').append(store.lifeByRecords(pallet));
            if (store.state(pallet) == 'r') {
                text.append(" in ").append(store.roomOf(pallet)).append(' ').append(store.forecast(pallet, 7));
            }
        }
    }

    private static void addOrders(ColdStore store, StringBuilder text) {
        for (int order = 0; hasOrder(store, order); order++) {
            text.append(" | order ").append(store.orderState(order));
            int candidates = store.candidates(order);
            for (int index = 0; index < candidates; index++) {
                text.append(' ').append(store.candidateAt(order, index));
            }
            if (store.orderState(order) == 's') {
                text.append(" least ").append(store.leastShipped(order));
            }
        }
    }

    private static boolean hasOrder(ColdStore store, int order) {
        try {
            store.orderState(order);
            return true;
        } catch (IndexOutOfBoundsException e) {
            return false;
        }
    }
}
