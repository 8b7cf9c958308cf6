import java.util.function.Consumer;
import java.util.function.Supplier;

/** Refused calls, and stores to make them on: two stores are made alike, and only one of them is asked the call. */
final class Twins {
    static final Class<?> ILLEGAL = IllegalArgumentException.class;
    static final Class<?> STATE = IllegalStateException.class;
    static final Class<?> INDEX = IndexOutOfBoundsException.class;
    static final Class<?> NONE = java.util.NoSuchElementException.class;
    static final Class<?> UNABLE = UnsupportedOperationException.class;
    static final Class<?> ARITHMETIC = ArithmeticException.class;

    private Twins() {
    }

    /** The call must throw exactly what is due, and the store must then go on as its twin that was not asked. */
    static void refused(String what, Supplier<ColdStore> maker, Class<?> due, Consumer<ColdStore> call) {
        ColdStore asked = maker.get();
        Check.refuses(what, asked, due, () -> call.accept(asked));
        Check.same(what + ", and what comes afterwards", future(asked), future(maker.get()));
    }

    /** The call must throw nothing. */
    static void taken(String what, Supplier<ColdStore> maker, Consumer<ColdStore> call) {
        ColdStore asked = maker.get();
        try {
            call.accept(asked);
        } catch (RuntimeException e) {
            Check.holds(what + ", which threw " + e, false);
        }
        Check.holds(what + ", and consistent", asked.isConsistent());
    }

    /** Three rooms, two kinds, seven pallets and three orders at the time 2; each setting matters soon. */
    static ColdStore busy() {
        ColdStore store = new ColdStore();
        store.setOutside(120);
        store.addRoom(10, 30, 40);
        store.addRoom(5, 20, 30);
        store.addRoom(20, 25, 50);
        store.setLimits(0, 10, 60);
        store.setLimits(1, 15, 45);
        store.setLimits(2, -20, 30);
        store.setLead(0, 3, 25);
        store.setLead(2, 2, 30);
        store.setMode(1, 'o');
        store.setPrices(7, 31, 6, 9);
        store.setCharge(13);
        store.setPowerLimit(95);
        store.addKind(500, 30, -20);
        store.addKind(300, 0, -50);
        for (int pallet = 0; pallet < 7; pallet++) {
            store.addPallet(pallet % 2, pallet % 3);
        }
        store.order(0, 2, 100, 8);
        store.order(1, 3, 0, 12);
        store.order(1, 8, 0, 14);
        store.pass(2);
        return store;
    }

    /** As many rooms, kinds, pallets and orders as there can be; the rooms 0 to 2 are full, the room 3 is empty. */
    static ColdStore full() {
        ColdStore store = new ColdStore();
        for (int room = 0; room < 4; room++) {
            store.addRoom(10, 30, 40);
        }
        for (int kind = 0; kind < 5; kind++) {
            store.addKind(500 + kind, 30, -20);
        }
        for (int pallet = 0; pallet < 24; pallet++) {
            store.addPallet(pallet % 5, pallet / 8);
        }
        for (int order = 0; order < 12; order++) {
            store.order(order % 5, 1 + order % 3, 100, 10 + order);
        }
        return store;
    }

    static ColdStore withRooms(int rooms) {
        ColdStore store = new ColdStore();
        for (int room = 0; room < rooms; room++) {
            store.addRoom(10, 30, 40);
        }
        return store;
    }

    static ColdStore withKinds(int kinds) {
        ColdStore store = withRooms(4);
        for (int kind = 0; kind < kinds; kind++) {
            store.addKind(500 + kind, 30, -20);
        }
        return store;
    }

    static ColdStore withPallets(int pallets) {
        ColdStore store = withKinds(1);
        for (int pallet = 0; pallet < pallets; pallet++) {
            store.addPallet(0, pallet / 8);
        }
        return store;
    }

    static ColdStore withOrders(int orders) {
        ColdStore store = withPallets(3);
        for (int order = 0; order < orders; order++) {
            store.order(0, 1 + order % 8, 100, 10 + order);
        }
        return store;
    }

    /** Two rooms that stay at 0, and kinds with the full lives given, which lose one unit in each tick. */
    static ColdStore steady(int... lives) {
        ColdStore store = new ColdStore();
        store.setOutside(0);
        store.addRoom(1, 1, 1);
        store.addRoom(1, 1, 1);
        for (int life : lives) {
            store.addKind(life, 10, -10);
        }
        return store;
    }

    /** The rooms, kinds, pallets and orders of the busy store, at a time that is later than 2. */
    static ColdStore busyAt(int time) {
        ColdStore store = busy();
        passTo(store, time);
        return store;
    }

    static void passTo(ColdStore store, int time) {
        for (int i = 0; i < 960 && store.now() < time; i++) {
            store.pass(Math.min(96, time - store.now()));
        }
    }

    /** A text of what the store answers from now on, to calls that bring to light all that it holds. */
    private static String future(ColdStore store) {
        StringBuilder text = new StringBuilder();
        tellTicks(store, text, 14, 1);
        tellSettings(store, text);
        tellTicks(store, text, 9, 3);
        tell(text, () -> store.addRoom(30, 40, 20));
        tell(text, () -> store.addKind(400, 60, 10));
        for (int kind = 0; kind < 5; kind++) {
            int asked = kind;
            tell(text, () -> store.addPallet(asked, 0));
            tell(text, () -> store.addPallet(asked, 3));
            tell(text, () -> store.order(asked, 1, 0, store.now() + 2));
        }
        tellTicks(store, text, 4, 1);
        tellTicks(store, text, 2, 96);
        return text.toString();
    }

    private static void tellTicks(ColdStore store, StringBuilder text, int times, int ticks) {
        for (int i = 0; i < times; i++) {
            tell(text, () -> store.pass(ticks));
            text.append(Snapshot.of(store)).append('\n');
        }
    }

    private static void tellSettings(ColdStore store, StringBuilder text) {
        tell(text, () -> store.setOutside(200));
        tell(text, () -> store.setCharge(3));
        tell(text, () -> store.setPowerLimit(120));
        tell(text, () -> store.setPrices(5, 9, 30, 40));
        for (int room = 0; room < 4; room++) {
            int asked = room;
            tell(text, () -> (int) store.setMode(asked, 'a'));
            tell(text, () -> store.setLead(asked, 2, 10));
            tell(text, () -> store.setLimits(asked, 30, 60));
        }
    }

    private static void tell(StringBuilder text, Supplier<Integer> call) {
        try {
            text.append(call.get()).append(' ');
        } catch (RuntimeException e) {
            text.append(e.getClass().getSimpleName()).append(' ');
        }
    }
}
