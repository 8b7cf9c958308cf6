import java.util.NoSuchElementException;

/** Promises 1 to 13: a new object, time and rooms. */
public final class RoomsTest {
    private static final Class<?> ILLEGAL = IllegalArgumentException.class;
    private static final Class<?> STATE = IllegalStateException.class;
    private static final Class<?> INDEX = IndexOutOfBoundsException.class;
    private static final Class<?> NONE = NoSuchElementException.class;

    public static void main(String[] args) {
        newObject();
        passingTime();
        endOfTime();
        outside();
        addingRooms();
        limits();
        modes();
        leads();
        temperatures();
        coldest();
        cooled();
        warmestAndMean();
        space();
        Check.end();
    }

    private static void newObject() {
        ColdStore store = new ColdStore();
        Check.same("1: the new store", Snapshot.of(store), "now 0 power 0 0 bill 0 0 consistent true");
        Check.refuses("1: no room", store, INDEX, () -> store.temperature(0));
        Check.refuses("1: no kind", store, INDEX, () -> store.order(0, 1, 0, 5));
        Check.refuses("1: no pallet", store, INDEX, () -> store.life(0));
        Check.refuses("1: no order", store, INDEX, () -> store.orderState(0));
        Check.same("1: outside", store.setOutside(0), 250);
    }

    private static void passingTime() {
        ColdStore store = new ColdStore();
        Check.refuses("3: pass(0)", store, ILLEGAL, () -> store.pass(0));
        Check.refuses("3: pass(-1)", store, ILLEGAL, () -> store.pass(-1));
        Check.refuses("3: pass(97)", store, ILLEGAL, () -> store.pass(97));
        Check.refuses("3: pass(MIN)", store, ILLEGAL, () -> store.pass(Integer.MIN_VALUE));
        Check.refuses("3: pass(MAX)", store, ILLEGAL, () -> store.pass(Integer.MAX_VALUE));
        Check.same("3: pass(1)", store.pass(1), 0);
        Check.same("2: now", store.now(), 1);
        Check.same("3: pass(96)", store.pass(96), 0);
        Check.same("2: now", store.now(), 97);
        store.addRoom(10, 10, 10);
        store.addKind(100, 0, -10);
        store.addPallet(0, 0);
        store.addPallet(0, 0);
        store.order(0, 1, 0, 98);
        store.order(0, 1, 0, 99);
        store.order(0, 1, 0, 99);
        store.order(0, 1, 0, 110);
        Check.same("3: orders shipped in these ticks", store.pass(10), 2);
        Check.same("3: orders shipped in these ticks", store.pass(10), 0);
    }

    private static void endOfTime() {
        ColdStore store = new ColdStore();
        for (int day = 0; day < 9; day++) {
            store.pass(96);
        }
        store.pass(95);
        Check.same("2: now", store.now(), 959);
        Check.refuses("3: beyond 960", store, STATE, () -> store.pass(2));
        Check.refuses("3: beyond 960", store, STATE, () -> store.pass(96));
        Check.refuses("3: the range comes first", store, ILLEGAL, () -> store.pass(97));
        Check.same("3: up to 960", store.pass(1), 0);
        Check.same("2: now", store.now(), 960);
        Check.refuses("3: at 960", store, STATE, () -> store.pass(1));
        Check.refuses("3: at 960, the range comes first", store, ILLEGAL, () -> store.pass(0));
        Check.same("5: a room at 960", store.addRoom(1, 1, 1), 0);
        Check.refuses("11: it has no tick", store, NONE, () -> store.warmest(0));
        Check.holds("40", store.isConsistent());
    }

    private static void outside() {
        ColdStore store = new ColdStore();
        Check.refuses("4: too cold", store, ILLEGAL, () -> store.setOutside(-301));
        Check.refuses("4: too warm", store, ILLEGAL, () -> store.setOutside(451));
        Check.same("4: the coldest", store.setOutside(-300), 250);
        Check.same("4: the warmest", store.setOutside(450), -300);
        Check.same("4: previous", store.setOutside(7), 450);
        store.addRoom(50, 1, 1);
        Check.same("5: as outside", store.temperature(0), 7);
        store.setOutside(107);
        Check.same("4: the room stays as it is", store.temperature(0), 7);
        store.pass(1);
        Check.same("4: it warms up", store.temperature(0), 57);
    }

    private static void addingRooms() {
        ColdStore store = new ColdStore();
        int[][] wrong = {{0, 1, 1}, {51, 1, 1}, {1, 0, 1}, {1, 101, 1}, {1, 1, 0}, {1, 1, 101}, {-1, 1, 1}};
        for (int[] numbers : wrong) {
            Check.refuses("5: out of range", store, ILLEGAL, () -> store.addRoom(numbers[0], numbers[1], numbers[2]));
        }
        Check.same("5: the least", store.addRoom(1, 1, 1), 0);
        Check.same("5: the most", store.addRoom(50, 100, 100), 1);
        Check.same("5: the third", store.addRoom(10, 10, 10), 2);
        Check.same("5: the fourth", store.addRoom(10, 10, 10), 3);
        Check.refuses("5: the fifth", store, STATE, () -> store.addRoom(10, 10, 10));
        Check.refuses("5: the range comes first", store, ILLEGAL, () -> store.addRoom(10, 10, 101));
        Check.same("5: lower limit", store.setLimits(0, 0, 0), 20);
        Check.same("5: mode", store.setMode(0, 'n'), 'a');
        Check.same("5: lead", store.setLead(0, 1, 1), 0);
        Check.refuses("9: no room 4", store, INDEX, () -> store.temperature(4));
        ColdStore warm = new ColdStore();
        warm.setOutside(50);
        warm.addRoom(1, 1, 1);
        warm.pass(1);
        Check.holds("5: the upper limit is 50", !warm.isCooled(0));
        warm.setOutside(51);
        warm.addRoom(1, 1, 1);
        warm.pass(1);
        Check.holds("5: the upper limit is 50", warm.isCooled(1));
    }

    private static void limits() {
        ColdStore store = new ColdStore();
        store.addRoom(10, 10, 10);
        Check.refuses("6: lower too low", store, ILLEGAL, () -> store.setLimits(0, -301, 0));
        Check.refuses("6: lower too high", store, ILLEGAL, () -> store.setLimits(0, 301, 301));
        Check.refuses("6: upper too high", store, ILLEGAL, () -> store.setLimits(0, 0, 301));
        Check.refuses("6: upper less than lower", store, ILLEGAL, () -> store.setLimits(0, 5, 4));
        Check.refuses("6: no such room", store, INDEX, () -> store.setLimits(1, 5, 4));
        Check.refuses("6: no such room", store, INDEX, () -> store.setLimits(-1, 5, 6));
        Check.same("6: previous lower", store.setLimits(0, -300, 300), 20);
        Check.same("6: previous lower", store.setLimits(0, 300, 300), -300);
        Check.same("6: previous lower", store.setLimits(0, -300, -300), 300);
        Check.same("6: previous lower", store.setLimits(0, 250, 250), -300);
        store.pass(1);
        Check.holds("6: not above the upper limit", !store.isCooled(0));
        store.setLimits(0, 249, 249);
        store.pass(1);
        Check.holds("6: above the upper limit", store.isCooled(0));
    }

    private static void modes() {
        ColdStore store = new ColdStore();
        store.addRoom(10, 10, 10);
        for (char mode : new char[] {'x', 'A', 'O', 'N', ' ', (char) 0, (char) 0xffff}) {
            Check.refuses("7: mode " + (int) mode, store, ILLEGAL, () -> store.setMode(0, mode));
        }
        Check.refuses("7: no such room", store, INDEX, () -> store.setMode(1, 'x'));
        Check.refuses("7: no such room", store, INDEX, () -> store.setMode(-1, 'a'));
        Check.same("7: previous", store.setMode(0, 'n'), 'a');
        store.pass(1);
        Check.holds("7: never", !store.isCooled(0));
        Check.same("7: previous", store.setMode(0, 'o'), 'n');
        store.setLimits(0, 300, 300);
        store.pass(1);
        Check.holds("7: on, below the limits", store.isCooled(0));
        Check.same("7: previous", store.setMode(0, 'a'), 'o');
        store.pass(1);
        Check.holds("7: automatic, below the limits", !store.isCooled(0));
        Check.same("7: previous", store.setMode(0, 'a'), 'a');
    }

    private static void leads() {
        ColdStore store = new ColdStore();
        store.addRoom(10, 10, 10);
        Check.refuses("8: ticks", store, ILLEGAL, () -> store.setLead(0, -1, 0));
        Check.refuses("8: ticks", store, ILLEGAL, () -> store.setLead(0, 17, 0));
        Check.refuses("8: depth", store, ILLEGAL, () -> store.setLead(0, 0, -1));
        Check.refuses("8: depth", store, ILLEGAL, () -> store.setLead(0, 0, 101));
        Check.refuses("8: no such room", store, INDEX, () -> store.setLead(1, 17, 101));
        Check.refuses("8: no such room", store, INDEX, () -> store.setLead(-1, 0, 0));
        Check.same("8: previous", store.setLead(0, 16, 100), 0);
        Check.same("8: previous", store.setLead(0, 3, 0), 16);
        Check.same("8: previous", store.setLead(0, 0, 0), 3);
    }

    private static void temperatures() {
        ColdStore store = new ColdStore();
        store.setOutside(99);
        store.addRoom(1, 100, 1);
        store.setMode(0, 'n');
        store.setOutside(0);
        store.pass(1);
        Check.same("9: -0.99 is rounded towards 0", store.temperature(0), 99);
        store.setOutside(198);
        store.pass(1);
        Check.same("9: 0.99 is rounded towards 0", store.temperature(0), 99);
        store.setOutside(199);
        store.pass(1);
        Check.same("9: 1.00", store.temperature(0), 100);
        store.setOutside(-99);
        store.pass(1);
        Check.same("9: -1.99 is rounded towards 0", store.temperature(0), 99);
        store.setMode(0, 'o');
        store.pass(1);
        Check.same("9: the strength in addition", store.temperature(0), -2);
        Check.refuses("9: no such room", store, INDEX, () -> store.temperature(1));
        Check.refuses("9: no such room", store, INDEX, () -> store.temperature(-1));
        Check.refuses("9: no such room", store, INDEX, () -> store.temperature(Integer.MIN_VALUE));
    }

    private static void coldest() {
        ColdStore store = new ColdStore();
        store.setOutside(-300);
        store.addRoom(1, 50, 1);
        store.setMode(0, 'o');
        store.pass(1);
        Check.same("9: cold", store.temperature(0), -350);
        store.pass(1);
        Check.same("9: exactly -400 stays", store.temperature(0), -400);
        store.pass(1);
        Check.same("9: below -400 becomes -400", store.temperature(0), -400);
        Check.same("11: the warmest was cold", store.warmest(0), -350);
        Check.sameDouble("12: mean", store.meanTemperature(0), -1150.0 / 3.0);
        store.setMode(0, 'n');
        store.pass(1);
        Check.same("9: it warms up", store.temperature(0), -399);
    }

    private static void cooled() {
        ColdStore store = new ColdStore();
        store.addRoom(1, 100, 60);
        Check.holds("10: before the first tick", !store.isCooled(0));
        store.pass(1);
        Check.holds("10: in the latest tick", store.isCooled(0));
        store.addRoom(1, 100, 60);
        Check.holds("10: not a tick since it was added", !store.isCooled(1));
        store.setMode(0, 'n');
        Check.holds("10: still the latest tick", store.isCooled(0));
        store.setPowerLimit(59);
        store.pass(1);
        Check.holds("10: never", !store.isCooled(0));
        Check.holds("10: wants to be, but is given no power", !store.isCooled(1));
        store.setPowerLimit(60);
        store.pass(1);
        Check.holds("10: power enough", store.isCooled(1));
        Check.refuses("10: no such room", store, INDEX, () -> store.isCooled(2));
        Check.refuses("10: no such room", store, INDEX, () -> store.isCooled(-1));
    }

    private static void warmestAndMean() {
        ColdStore store = new ColdStore();
        store.pass(5);
        store.addRoom(50, 1, 1);
        Check.refuses("11: no tick", store, NONE, () -> store.warmest(0));
        Check.refuses("12: no tick", store, ArithmeticException.class, () -> store.meanTemperature(0));
        Check.refuses("11: no such room", store, INDEX, () -> store.warmest(1));
        Check.refuses("11: no such room", store, INDEX, () -> store.warmest(-1));
        Check.refuses("12: no such room", store, INDEX, () -> store.meanTemperature(1));
        Check.refuses("12: no such room", store, INDEX, () -> store.meanTemperature(-1));
        store.setMode(0, 'n');
        store.setOutside(150);
        store.pass(1);
        Check.same("11: only the ends of ticks count", store.warmest(0), 200);
        Check.sameDouble("12: one tick", store.meanTemperature(0), 200.0);
        store.pass(2);
        Check.same("9: 200, 175, 163", store.temperature(0), 163);
        Check.same("11: the greatest", store.warmest(0), 200);
        Check.sameDouble("12: three ticks", store.meanTemperature(0), 538.0 / 3.0);
        store.setOutside(450);
        store.pass(1);
        Check.same("11: the greatest", store.warmest(0), 306);
        Check.sameDouble("12: four ticks", store.meanTemperature(0), 211.0);
    }

    private static void space() {
        ColdStore store = new ColdStore();
        store.addRoom(1, 1, 1);
        store.addRoom(1, 1, 1);
        store.addKind(100, 300, 0);
        Check.same("13: empty", store.freeSpace(0), 8);
        for (int i = 0; i < 8; i++) {
            store.addPallet(0, 0);
            Check.same("13: one more", store.freeSpace(0), 7 - i);
        }
        Check.same("13: the other room", store.freeSpace(1), 8);
        store.movePallet(3, 1);
        Check.same("13: moved away", store.freeSpace(0), 1);
        Check.same("13: moved here", store.freeSpace(1), 7);
        store.scrap(3);
        Check.same("13: scrapped", store.freeSpace(1), 8);
        store.order(0, 2, 0, 10);
        store.ship(0);
        Check.same("13: shipped", store.freeSpace(0), 3);
        Check.refuses("13: no such room", store, INDEX, () -> store.freeSpace(2));
        Check.refuses("13: no such room", store, INDEX, () -> store.freeSpace(-1));
    }
}
