import java.util.NoSuchElementException;

/** Promises 21 to 32, and the fifth step of a tick. */
public final class PalletsTest {
    private static final Class<?> ILLEGAL = IllegalArgumentException.class;
    private static final Class<?> STATE = IllegalStateException.class;
    private static final Class<?> INDEX = IndexOutOfBoundsException.class;
    private static final Class<?> NONE = NoSuchElementException.class;

    public static void main(String[] args) {
        kinds();
        pallets();
        moving();
        scrapping();
        losses();
        lossOfNewTemperature();
        noLifeLeft();
        lifeOfMoved();
        lifeOfGone();
        longestLife();
        forecast();
        soonest();
        lostShare();
        Check.end();
    }

    private static void kinds() {
        ColdStore store = new ColdStore();
        int[][] wrong = {
            {0, 0, -1}, {10000, 0, -1}, {1, -301, -400}, {1, 301, 0}, {1, 0, 0}, {1, 0, 1},
            {1, 0, -401}, {1, Integer.MIN_VALUE, -400}, {1, 0, Integer.MIN_VALUE},
        };
        for (int[] n : wrong) {
            Check.refuses("21: out of range", store, ILLEGAL, () -> store.addKind(n[0], n[1], n[2]));
        }
        Check.same("21: the least", store.addKind(1, -300, -400), 0);
        Check.same("21: the most", store.addKind(9999, 300, 299), 1);
        Check.same("21: third", store.addKind(5, -300, -301), 2);
        Check.same("21: fourth", store.addKind(5, 0, -1), 3);
        Check.same("21: fifth", store.addKind(5, 0, -1), 4);
        Check.refuses("21: the sixth", store, STATE, () -> store.addKind(5, 0, -1));
        Check.refuses("21: the range comes first", store, ILLEGAL, () -> store.addKind(5, 0, 0));
    }

    private static ColdStore storeWith(int rooms, int kinds) {
        ColdStore store = new ColdStore();
        for (int i = 0; i < rooms; i++) {
            store.addRoom(1, 1, 1);
        }
        for (int i = 0; i < kinds; i++) {
            store.addKind(100 * (i + 1), 300, 200);
        }
        return store;
    }

    private static void pallets() {
        ColdStore store = storeWith(4, 2);
        Check.same("25: none", store.pallets(), 0);
        Check.refuses("22: no such kind", store, INDEX, () -> store.addPallet(2, 0));
        Check.refuses("22: no such kind", store, INDEX, () -> store.addPallet(-1, 0));
        Check.refuses("22: no such room", store, INDEX, () -> store.addPallet(0, 4));
        Check.refuses("22: no such room", store, INDEX, () -> store.addPallet(0, -1));
        Check.same("22: the first", store.addPallet(1, 2), 0);
        Check.same("26: in a room", store.state(0), 'r');
        Check.same("27: the room", store.roomOf(0), 2);
        Check.same("28: the full life", store.life(0), 200);
        Check.same("29: the full life", store.lifeByRecords(0), 200);
        for (int i = 1; i < 8; i++) {
            Check.same("22: the next", store.addPallet(0, 2), i);
        }
        Check.refuses("22: the room is full", store, STATE, () -> store.addPallet(0, 2));
        Check.refuses("22: no such kind comes first", store, INDEX, () -> store.addPallet(2, 2));
        for (int i = 8; i < 24; i++) {
            Check.same("22: the next", store.addPallet(0, i % 2), i);
        }
        Check.same("25: all", store.pallets(), 24);
        Check.refuses("22: the 25th", store, STATE, () -> store.addPallet(0, 3));
        Check.refuses("22: no such room comes first", store, INDEX, () -> store.addPallet(0, 4));
        store.scrap(0);
        Check.same("25: scrapped ones included", store.pallets(), 24);
        Check.refuses("22: scrapped ones count", store, STATE, () -> store.addPallet(0, 3));
        for (int bad : new int[] {-1, 24, Integer.MIN_VALUE, Integer.MAX_VALUE}) {
            Check.refuses("26: no such pallet", store, INDEX, () -> store.state(bad));
            Check.refuses("27: no such pallet", store, INDEX, () -> store.roomOf(bad));
            Check.refuses("28: no such pallet", store, INDEX, () -> store.life(bad));
            Check.refuses("29: no such pallet", store, INDEX, () -> store.lifeByRecords(bad));
        }
    }

    private static void moving() {
        ColdStore store = storeWith(3, 1);
        store.addPallet(0, 0);
        Check.refuses("23: no such pallet", store, INDEX, () -> store.movePallet(1, 0));
        Check.refuses("23: no such pallet", store, INDEX, () -> store.movePallet(-1, 0));
        Check.refuses("23: no such room", store, INDEX, () -> store.movePallet(0, 3));
        Check.refuses("23: no such room", store, INDEX, () -> store.movePallet(0, -1));
        Check.same("23: previous room", store.movePallet(0, 2), 0);
        Check.same("23: previous room", store.movePallet(0, 2), 2);
        Check.same("23: previous room", store.movePallet(0, 0), 2);
        Check.same("27: the room", store.roomOf(0), 0);
        for (int i = 0; i < 7; i++) {
            store.addPallet(0, 0);
        }
        Check.same("23: the same room, though full", store.movePallet(5, 0), 0);
        store.addPallet(0, 1);
        Check.refuses("23: full", store, STATE, () -> store.movePallet(8, 0));
        store.scrap(8);
        Check.refuses("23: not in a room", store, NONE, () -> store.movePallet(8, 0));
        Check.refuses("23: not in a room", store, NONE, () -> store.movePallet(8, 1));
        Check.refuses("23: no such room comes first", store, INDEX, () -> store.movePallet(8, 3));
    }

    private static void scrapping() {
        ColdStore store = storeWith(1, 1);
        store.addPallet(0, 0);
        store.addPallet(0, 0);
        store.pass(3);
        Check.refuses("24: no such pallet", store, INDEX, () -> store.scrap(2));
        Check.refuses("24: no such pallet", store, INDEX, () -> store.scrap(-1));
        Check.same("24: its life", store.scrap(0), 97);
        Check.same("26: scrapped", store.state(0), 'x');
        Check.refuses("24: not twice", store, NONE, () -> store.scrap(0));
        Check.refuses("27: not in a room", store, NONE, () -> store.roomOf(0));
        store.order(0, 1, 0, 10);
        store.ship(0);
        Check.same("26: shipped", store.state(1), 's');
        Check.refuses("24: shipped", store, NONE, () -> store.scrap(1));
        Check.refuses("27: shipped", store, NONE, () -> store.roomOf(1));
    }

    /** The life of 100 that is left after one tick at the temperature given. */
    private static int lifeAt(int temperature, int best, int lowest) {
        ColdStore store = new ColdStore();
        store.setOutside(temperature);
        store.addRoom(1, 1, 1);
        store.setMode(0, 'n');
        store.addKind(100, best, lowest);
        store.addPallet(0, 0);
        int forecast = store.forecast(0, 1);
        store.pass(1);
        Check.same("29: life", store.lifeByRecords(0), store.life(0));
        Check.same("30: forecast", forecast, store.life(0));
        return store.life(0);
    }

    private static void losses() {
        Check.same("28: too cold", lifeAt(-11, 20, -10), 90);
        Check.same("28: the lowest", lifeAt(-10, 20, -10), 99);
        Check.same("28: below the best", lifeAt(0, 20, -10), 99);
        Check.same("28: far below the best", lifeAt(-30, 20, -60), 99);
        Check.same("28: the best", lifeAt(20, 20, -10), 99);
        Check.same("28: 19 above", lifeAt(39, 20, -10), 99);
        Check.same("28: 20 above", lifeAt(40, 20, -10), 98);
        Check.same("28: 39 above", lifeAt(59, 20, -10), 98);
        Check.same("28: 40 above", lifeAt(60, 20, -10), 97);
        Check.same("28: the most", lifeAt(450, -300, -400), 62);
        Check.same("28: below zero", lifeAt(-180, -200, -210), 98);
    }

    private static void lossOfNewTemperature() {
        ColdStore store = new ColdStore();
        store.setOutside(100);
        store.addRoom(50, 100, 1);
        store.setMode(0, 'o');
        store.addKind(100, 50, 1);
        store.addPallet(0, 0);
        store.pass(1);
        Check.same("9: new temperature", store.temperature(0), 0);
        Check.same("28: by the new temperature", store.life(0), 90);
    }

    private static void noLifeLeft() {
        ColdStore store = new ColdStore();
        store.setOutside(0);
        store.addRoom(1, 1, 1);
        store.addKind(15, 50, 10);
        store.addPallet(0, 0);
        store.pass(1);
        Check.same("28: life", store.life(0), 5);
        store.pass(1);
        Check.same("28: not less than 0", store.life(0), 0);
        store.pass(1);
        Check.same("28: not less than 0", store.life(0), 0);
        Check.same("29: not less than 0", store.lifeByRecords(0), 0);
        Check.same("26: still in a room", store.state(0), 'r');
        Check.same("30: not less than 0", store.forecast(0, 960), 0);
        Check.same("23: it can be moved", store.movePallet(0, 0), 0);
        Check.same("24: it can be scrapped", store.scrap(0), 0);
    }

    private static void lifeOfMoved() {
        ColdStore store = new ColdStore();
        store.pass(3);
        store.setOutside(0);
        store.addRoom(1, 1, 1);
        store.setOutside(100);
        store.addRoom(1, 1, 1);
        store.setOutside(300);
        store.addRoom(1, 1, 1);
        for (int i = 0; i < 3; i++) {
            store.setMode(i, 'n');
        }
        store.setOutside(50);
        store.addKind(1000, 50, 5);
        store.addPallet(0, 0);
        store.movePallet(0, 1);
        store.pass(1);
        Check.same("28: 50 above", store.life(0), 997);
        store.movePallet(0, 2);
        store.movePallet(0, 0);
        store.pass(2);
        Check.same("28: too cold", store.life(0), 977);
        Check.same("29: too cold", store.lifeByRecords(0), 977);
        store.movePallet(0, 1);
        store.movePallet(0, 0);
        store.pass(1);
        Check.same("28: too cold", store.life(0), 967);
        store.movePallet(0, 1);
        Check.same("29: moved just now", store.lifeByRecords(0), 967);
        store.movePallet(0, 2);
        store.pass(1);
        Check.same("9: room 2", store.temperature(2), 290);
        Check.same("28: 240 above", store.life(0), 954);
        Check.same("29: 240 above", store.lifeByRecords(0), 954);
        Check.holds("40", store.isConsistent());
    }

    private static void lifeOfGone() {
        ColdStore store = storeWith(1, 1);
        store.addPallet(0, 0);
        store.pass(2);
        store.addPallet(0, 0);
        store.pass(2);
        store.scrap(0);
        store.order(0, 1, 0, 6);
        store.pass(2);
        store.pass(90);
        Check.same("28: scrapped at 4", store.life(0), 96);
        Check.same("29: scrapped at 4", store.lifeByRecords(0), 96);
        Check.same("26: shipped", store.state(1), 's');
        Check.same("28: shipped at 6", store.life(1), 96);
        Check.same("29: shipped at 6", store.lifeByRecords(1), 96);
    }

    private static void longestLife() {
        ColdStore store = new ColdStore();
        store.setOutside(450);
        store.addRoom(1, 1, 1);
        store.setMode(0, 'n');
        store.addKind(9999, 300, 0);
        store.addPallet(0, 0);
        for (int i = 0; i < 10; i++) {
            store.pass(96);
        }
        Check.same("28: 8 in each tick", store.life(0), 9999 - 8 * 960);
        Check.same("29: 8 in each tick", store.lifeByRecords(0), 9999 - 8 * 960);
        Check.same("30: at the end of time", store.forecast(0, 1), 9999 - 8 * 961);
    }

    private static void forecast() {
        ColdStore store = new ColdStore();
        store.addRoom(10, 100, 1);
        store.addKind(5000, 100, 0);
        store.addKind(960, 250, 0);
        store.addKind(961, 250, 0);
        store.addPallet(0, 0);
        store.addPallet(1, 0);
        store.addPallet(2, 0);
        Check.same("30: 0 ticks", store.forecast(0, 0), 5000);
        Check.same("30: 150 above", store.forecast(0, 1), 4992);
        Check.same("30: 960 ticks", store.forecast(0, 960), 0);
        Check.same("30: 960 ticks", store.forecast(1, 960), 0);
        Check.same("30: 960 ticks", store.forecast(2, 960), 1);
        store.pass(1);
        Check.same("9: colder", store.temperature(0), 150);
        Check.same("30: 50 above", store.forecast(0, 10), 4997 - 30);
        Check.refuses("30: ticks", store, ILLEGAL, () -> store.forecast(0, -1));
        Check.refuses("30: ticks", store, ILLEGAL, () -> store.forecast(0, 961));
        Check.refuses("30: no such pallet", store, INDEX, () -> store.forecast(3, 961));
        Check.refuses("30: no such pallet", store, INDEX, () -> store.forecast(-1, 0));
        store.scrap(0);
        Check.refuses("30: not in a room", store, NONE, () -> store.forecast(0, 0));
        Check.refuses("30: not in a room comes first", store, NONE, () -> store.forecast(0, -1));
    }

    private static void soonest() {
        ColdStore store = storeWith(2, 3);
        Check.refuses("31: no pallet", store, NONE, () -> store.soonest());
        store.addPallet(2, 0);
        Check.same("31: the only one", store.soonest(), 0);
        store.addPallet(1, 1);
        store.addPallet(1, 0);
        Check.same("31: the lowest number", store.soonest(), 1);
        store.addPallet(0, 0);
        Check.same("31: the least life", store.soonest(), 3);
        store.scrap(3);
        Check.same("31: not the scrapped one", store.soonest(), 1);
        store.order(1, 1, 0, 5);
        store.ship(0);
        Check.same("31: not the shipped one", store.soonest(), 2);
        store.scrap(2);
        store.scrap(0);
        Check.refuses("31: none in a room", store, NONE, () -> store.soonest());
    }

    private static void lostShare() {
        ColdStore store = new ColdStore();
        store.setOutside(0);
        store.addRoom(1, 1, 1);
        store.addKind(10, 50, 10);
        store.addKind(11, 50, 10);
        Check.refuses("32: no pallets", store, ArithmeticException.class, () -> store.lostShare());
        store.addPallet(0, 0);
        Check.sameDouble("32: none lost", store.lostShare(), 0.0);
        store.addPallet(1, 0);
        store.addPallet(0, 0);
        store.scrap(2);
        Check.sameDouble("32: one scrapped", store.lostShare(), (double) (1f / 3f));
        store.pass(1);
        Check.same("28: no life", store.life(0), 0);
        Check.sameDouble("32: one without life", store.lostShare(), (double) (2f / 3f));
        store.scrap(0);
        Check.sameDouble("32: both at once count once", store.lostShare(), (double) (2f / 3f));
        store.addPallet(1, 0);
        store.order(1, 2, 0, 50);
        store.pass(1);
        Check.sameDouble("32: three", store.lostShare(), 0.75);
        store.ship(0);
        Check.same("26: shipped", store.state(1), 's');
        Check.sameDouble("32: a shipped one without life", store.lostShare(), 0.75);
        store.pass(5);
        Check.sameDouble("32: the shipped one keeps its life", store.lostShare(), 0.75);
    }
}
