import java.util.ArrayList;
import java.util.NoSuchElementException;

/**
 * A cold store: rooms that warm up and are cooled by thermostats, a power contract, pallets that
 * lose life, and orders that take the pallets with the least life that is still enough.
 */
public final class ColdStore {
    private static final int LAST_TIME = 960;
    private static final int DAY = 96;
    private static final int MOST_TICKS_AT_ONCE = 96;
    private static final int MOST_ROOMS = 4;
    private static final int MOST_KINDS = 5;
    private static final int MOST_PALLETS = 24;
    private static final int MOST_ORDERS = 12;
    private static final int ROOM_SPACE = 8;
    private static final int COLDEST = -400;
    private static final int COLDEST_OUTSIDE = -300;
    private static final int WARMEST_OUTSIDE = 450;
    private static final int LOWEST_SETTING = -300;
    private static final int HIGHEST_SETTING = 300;
    private static final int MOST_LEAD = 16;
    private static final int MOST_DEPTH = 100;
    private static final int MOST_CENTS = 1000;
    private static final int MOST_POWER = 400;
    private static final int LONGEST_LIFE = 9999;
    private static final int MOST_ORDERED = 8;

    private static final char AUTOMATIC = 'a';
    private static final char ON = 'o';
    private static final char NEVER = 'n';

    private static final char IN_ROOM = 'r';
    private static final char SCRAPPED = 'x';
    private static final char OPEN = 'o';
    private static final char MISSED = 'm';
    private static final char CANCELLED = 'c';
    /** The state of a shipped pallet and of a shipped order. */
    private static final char SHIPPED = 's';

    private final ArrayList<Room> rooms = new ArrayList<>();
    private final ArrayList<Kind> kinds = new ArrayList<>();
    private final ArrayList<Pallet> pallets = new ArrayList<>();
    private final ArrayList<Order> orders = new ArrayList<>();
    private final Contract contract = new Contract();
    private final Meter meter = new Meter();
    private int time = 0;
    private int outside = 250;

    public ColdStore() {
    }

    // ---- time and rooms

    public int now() {
        return time;
    }

    public int pass(int ticks) throws IllegalArgumentException, IllegalStateException {
        requireRange(ticks, 1, MOST_TICKS_AT_ONCE);
        if (ticks > LAST_TIME - time) {
            throw new IllegalStateException("the time would be greater than 960");
        }
        int shipped = 0;
        for (int i = 0; i < ticks; i++) {
            shipped += passOneTick();
        }
        return shipped;
    }

    public int setOutside(int temperature) throws IllegalArgumentException {
        requireRange(temperature, COLDEST_OUTSIDE, WARMEST_OUTSIDE);
        int previous = outside;
        outside = temperature;
        return previous;
    }

    public int addRoom(int leak, int strength, int power) throws IllegalArgumentException, IllegalStateException {
        requireRange(leak, 1, 50);
        requireRange(strength, 1, 100);
        requireRange(power, 1, 100);
        if (rooms.size() >= MOST_ROOMS) {
            throw new IllegalStateException("there are 4 rooms");
        }
        int number = rooms.size();
        rooms.add(new Room(number, leak, strength, power, outside));
        return number;
    }

    public int setLimits(int room, int lower, int upper) throws IndexOutOfBoundsException, IllegalArgumentException {
        Room changed = findRoom(room);
        requireRange(lower, LOWEST_SETTING, HIGHEST_SETTING);
        requireRange(upper, lower, HIGHEST_SETTING);
        int previous = changed.lower;
        changed.lower = lower;
        changed.upper = upper;
        return previous;
    }

    public char setMode(int room, char mode) throws IndexOutOfBoundsException, IllegalArgumentException {
        Room changed = findRoom(room);
        if (mode != AUTOMATIC && mode != ON && mode != NEVER) {
            throw new IllegalArgumentException("there is no such mode");
        }
        char previous = changed.mode;
        changed.mode = mode;
        return previous;
    }

    public int setLead(int room, int ticks, int depth) throws IndexOutOfBoundsException, IllegalArgumentException {
        Room changed = findRoom(room);
        requireRange(ticks, 0, MOST_LEAD);
        requireRange(depth, 0, MOST_DEPTH);
        int previous = changed.leadTicks;
        changed.leadTicks = ticks;
        changed.leadDepth = depth;
        return previous;
    }

    public int temperature(int room) throws IndexOutOfBoundsException {
        return findRoom(room).degrees;
    }

    public boolean isCooled(int room) throws IndexOutOfBoundsException {
        return findRoom(room).cooled;
    }

    public int warmest(int room) throws IndexOutOfBoundsException, NoSuchElementException {
        Room asked = findRoom(room);
        if (asked.ticks == 0) {
            throw new NoSuchElementException("there was no tick since the room was added");
        }
        return asked.greatest;
    }

    public double meanTemperature(int room) throws IndexOutOfBoundsException, ArithmeticException {
        Room asked = findRoom(room);
        if (asked.ticks == 0) {
            throw new ArithmeticException("there was no tick since the room was added");
        }
        return (double) asked.sum / (double) asked.ticks;
    }

    public int freeSpace(int room) throws IndexOutOfBoundsException {
        return spaceIn(findRoom(room));
    }

    // ---- power

    public int setPrices(int normal, int peak, int first, int last) throws IllegalArgumentException {
        requireRange(normal, 0, MOST_CENTS);
        requireRange(peak, 0, MOST_CENTS);
        requireRange(first, 0, DAY - 1);
        requireRange(last, first, DAY - 1);
        int previous = contract.normalPrice;
        contract.normalPrice = normal;
        contract.peakPrice = peak;
        contract.firstPeak = first;
        contract.lastPeak = last;
        return previous;
    }

    public int setCharge(int cents) throws IllegalArgumentException {
        requireRange(cents, 0, MOST_CENTS);
        int previous = contract.charge;
        contract.charge = cents;
        return previous;
    }

    public int setPowerLimit(int kilowatts) throws IllegalArgumentException {
        requireRange(kilowatts, 0, MOST_POWER);
        int previous = contract.limit;
        contract.limit = kilowatts;
        return previous;
    }

    public int power() {
        return meter.latest;
    }

    public int greatestPower() {
        return meter.greatest;
    }

    public long bill() {
        return meter.costs + (long) meter.greatest * contract.charge;
    }

    public long billByRecords() {
        return meter.recordedCosts(time) + (long) meter.recordedGreatest(time) * contract.charge;
    }

    // ---- pallets

    public int addKind(int life, int best, int lowest) throws IllegalArgumentException, IllegalStateException {
        requireRange(life, 1, LONGEST_LIFE);
        requireRange(best, LOWEST_SETTING, HIGHEST_SETTING);
        requireRange(lowest, COLDEST, best - 1);
        if (kinds.size() >= MOST_KINDS) {
            throw new IllegalStateException("there are 5 kinds");
        }
        kinds.add(new Kind(life, best, lowest));
        return kinds.size() - 1;
    }

    public int addPallet(int kind, int room) throws IndexOutOfBoundsException, IllegalStateException {
        Kind itsKind = findKind(kind);
        Room itsRoom = findRoom(room);
        if (pallets.size() >= MOST_PALLETS) {
            throw new IllegalStateException("there are 24 pallets");
        }
        requireSpace(itsRoom);
        int number = pallets.size();
        pallets.add(new Pallet(number, itsKind, itsRoom, time));
        return number;
    }

    public int movePallet(int pallet, int room) throws IndexOutOfBoundsException, NoSuchElementException, IllegalStateException {
        Pallet moved = findPallet(pallet);
        Room target = findRoom(room);
        requireInRoom(moved);
        Room previous = moved.stay.room;
        if (target != previous) {
            requireSpace(target);
            moved.enter(target, time);
        }
        return previous.number;
    }

    public int scrap(int pallet) throws IndexOutOfBoundsException, NoSuchElementException {
        Pallet scrapped = findPallet(pallet);
        requireInRoom(scrapped);
        scrapped.leave(SCRAPPED, time);
        return scrapped.lifeLeft;
    }

    public int pallets() {
        return pallets.size();
    }

    public char state(int pallet) throws IndexOutOfBoundsException {
        return findPallet(pallet).status;
    }

    public int roomOf(int pallet) throws IndexOutOfBoundsException, NoSuchElementException {
        Pallet asked = findPallet(pallet);
        requireInRoom(asked);
        return asked.stay.room.number;
    }

    public int life(int pallet) throws IndexOutOfBoundsException {
        return findPallet(pallet).lifeLeft;
    }

    public int lifeByRecords(int pallet) throws IndexOutOfBoundsException {
        return findPallet(pallet).recordedLife(time);
    }

    public int forecast(int pallet, int ticks) throws IndexOutOfBoundsException, NoSuchElementException, IllegalArgumentException {
        Pallet asked = findPallet(pallet);
        requireInRoom(asked);
        requireRange(ticks, 0, LAST_TIME);
        int loss = ticks * asked.kind.lossAt(asked.stay.room.degrees);
        return Math.max(0, asked.lifeLeft - loss);
    }

    public int soonest() throws NoSuchElementException {
        Pallet soonest = null;
        for (int i = 0; i < pallets.size(); i++) {
            Pallet pallet = pallets.get(i);
            if (pallet.isInRoom() && (soonest == null || pallet.isAheadOf(soonest))) {
                soonest = pallet;
            }
        }
        if (soonest == null) {
            throw new NoSuchElementException("no pallet is in a room");
        }
        return soonest.number;
    }

    public float lostShare() throws ArithmeticException {
        if (pallets.isEmpty()) {
            throw new ArithmeticException("there are no pallets");
        }
        int lost = 0;
        for (int i = 0; i < pallets.size(); i++) {
            Pallet pallet = pallets.get(i);
            if (pallet.status == SCRAPPED || pallet.lifeLeft == 0) {
                lost++;
            }
        }
        return (float) lost / (float) pallets.size();
    }

    // ---- orders

    public int order(int kind, int count, int promise, int due) throws IndexOutOfBoundsException, IllegalArgumentException, IllegalStateException {
        Kind wanted = findKind(kind);
        requireRange(count, 1, MOST_ORDERED);
        requireRange(promise, 0, LONGEST_LIFE);
        requireRange(due, time + 1, LAST_TIME);
        if (orders.size() >= MOST_ORDERS) {
            throw new IllegalStateException("there are 12 orders");
        }
        orders.add(new Order(wanted, count, promise, due));
        return orders.size() - 1;
    }

    public int cancel(int order) throws IndexOutOfBoundsException, IllegalStateException {
        Order cancelled = findOrder(order);
        requireOpen(cancelled);
        cancelled.status = CANCELLED;
        return countOpenOrders();
    }

    public int candidates(int order) throws IndexOutOfBoundsException {
        return countCandidates(findOrder(order));
    }

    public int candidateAt(int order, int index) throws IndexOutOfBoundsException, NoSuchElementException {
        Order asked = findOrder(order);
        Pallet candidate = null;
        if (index >= 0 && index < countCandidates(asked)) {
            candidate = findCandidate(asked, index);
        }
        if (candidate == null) {
            throw new NoSuchElementException("there is no such candidate");
        }
        return candidate.number;
    }

    public int ship(int order) throws IndexOutOfBoundsException, IllegalStateException, UnsupportedOperationException {
        Order shipped = findOrder(order);
        requireOpen(shipped);
        if (!canBeShipped(shipped)) {
            throw new UnsupportedOperationException("the order has too few candidates");
        }
        return shipCandidates(shipped);
    }

    public char orderState(int order) throws IndexOutOfBoundsException {
        return findOrder(order).status;
    }

    public int leastShipped(int order) throws IndexOutOfBoundsException, NoSuchElementException {
        Order asked = findOrder(order);
        if (asked.status != SHIPPED) {
            throw new NoSuchElementException("the order is not shipped");
        }
        return asked.leastLife;
    }

    public boolean isConsistent() {
        return isMeterConsistent() && areRoomsConsistent() && arePalletsConsistent() && areOrdersConsistent();
    }

    // ---- what the calls require

    private static void requireRange(int number, int least, int most) {
        if (number < least || number > most) {
            throw new IllegalArgumentException("a number is out of range");
        }
    }

    private Room findRoom(int number) {
        if (number < 0 || number >= rooms.size()) {
            throw new IndexOutOfBoundsException("there is no such room");
        }
        return rooms.get(number);
    }

    private Kind findKind(int number) {
        if (number < 0 || number >= kinds.size()) {
            throw new IndexOutOfBoundsException("there is no such kind");
        }
        return kinds.get(number);
    }

    private Pallet findPallet(int number) {
        if (number < 0 || number >= pallets.size()) {
            throw new IndexOutOfBoundsException("there is no such pallet");
        }
        return pallets.get(number);
    }

    private Order findOrder(int number) {
        if (number < 0 || number >= orders.size()) {
            throw new IndexOutOfBoundsException("there is no such order");
        }
        return orders.get(number);
    }

    private void requireSpace(Room room) {
        if (spaceIn(room) <= 0) {
            throw new IllegalStateException("the room is full");
        }
    }

    private static void requireInRoom(Pallet pallet) {
        if (!pallet.isInRoom()) {
            throw new NoSuchElementException("the pallet is not in a room");
        }
    }

    private static void requireOpen(Order order) {
        if (order.status != OPEN) {
            throw new IllegalStateException("the order is not open");
        }
    }

    // ---- what happens in a tick

    private int passOneTick() {
        int quarter = time % DAY;
        for (int i = 0; i < rooms.size(); i++) {
            rooms.get(i).decide(contract, quarter);
        }
        int used = givePower();
        for (int i = 0; i < rooms.size(); i++) {
            rooms.get(i).changeTemperature(outside, time);
        }
        meter.record(time, used, contract.priceIn(quarter));
        for (int i = 0; i < pallets.size(); i++) {
            pallets.get(i).loseLife();
        }
        time++;
        return settleDueOrders();
    }

    private int givePower() {
        for (int i = 0; i < rooms.size(); i++) {
            Room room = rooms.get(i);
            room.cooled = false;
            room.waiting = room.wanting;
        }
        int used = 0;
        for (int turn = 0; turn < rooms.size(); turn++) {
            Room next = nextWaitingRoom();
            if (next == null) {
                break;
            }
            next.waiting = false;
            if (used + next.kilowatts <= contract.limit) {
                next.cooled = true;
                used += next.kilowatts;
            }
        }
        return used;
    }

    /** The waiting room that is the warmest above its upper limit, or null if none waits. */
    private Room nextWaitingRoom() {
        Room next = null;
        for (int i = 0; i < rooms.size(); i++) {
            Room room = rooms.get(i);
            if (room.waiting && (next == null || room.excess() > next.excess())) {
                next = room;
            }
        }
        return next;
    }

    private int settleDueOrders() {
        int shipped = 0;
        for (int i = 0; i < orders.size(); i++) {
            Order order = orders.get(i);
            if (order.status == OPEN && order.due == time) {
                if (canBeShipped(order)) {
                    shipCandidates(order);
                    shipped++;
                } else {
                    order.status = MISSED;
                }
            }
        }
        return shipped;
    }

    // ---- space and candidates

    private int spaceIn(Room room) {
        int space = ROOM_SPACE;
        for (int i = 0; i < pallets.size(); i++) {
            Pallet pallet = pallets.get(i);
            if (pallet.isInRoom() && pallet.stay.room == room) {
                space--;
            }
        }
        return space;
    }

    private int countOpenOrders() {
        int open = 0;
        for (int i = 0; i < orders.size(); i++) {
            if (orders.get(i).status == OPEN) {
                open++;
            }
        }
        return open;
    }

    private int countCandidates(Order order) {
        int count = 0;
        for (int i = 0; i < pallets.size(); i++) {
            if (order.accepts(pallets.get(i))) {
                count++;
            }
        }
        return count;
    }

    private boolean canBeShipped(Order order) {
        return countCandidates(order) >= order.count;
    }

    private Pallet findCandidate(Order order, int index) {
        Pallet candidate = nextCandidate(order, null);
        for (int i = 0; i < index && candidate != null; i++) {
            candidate = nextCandidate(order, candidate);
        }
        return candidate;
    }

    /** The first candidate behind a given one, or the first of all behind null; null if there is none. */
    private Pallet nextCandidate(Order order, Pallet given) {
        Pallet next = null;
        for (int i = 0; i < pallets.size(); i++) {
            Pallet pallet = pallets.get(i);
            boolean isBehind = given == null || given.isAheadOf(pallet);
            if (isBehind && order.accepts(pallet) && (next == null || pallet.isAheadOf(next))) {
                next = pallet;
            }
        }
        return next;
    }

    /** Ships as many candidates as the order asks for, and returns the sum of their lives. */
    private int shipCandidates(Order order) {
        int sum = 0;
        for (int i = 0; i < order.count; i++) {
            // A shipped pallet is no candidate any more, so the first one is always the next to go.
            Pallet first = nextCandidate(order, null);
            if (first == null) {
                break;
            }
            if (i == 0) {
                order.leastLife = first.lifeLeft;
            }
            sum += first.lifeLeft;
            first.leave(SHIPPED, time);
        }
        order.status = SHIPPED;
        return sum;
    }

    // ---- the invariants

    private boolean isMeterConsistent() {
        return time >= 0 && time <= LAST_TIME
            && bill() == billByRecords()
            && meter.greatest == meter.recordedGreatest(time)
            && meter.latest <= meter.greatest;
    }

    private boolean areRoomsConsistent() {
        for (int i = 0; i < rooms.size(); i++) {
            Room room = rooms.get(i);
            boolean holds = room.number == i
                && room.lower <= room.upper
                && room.degrees >= COLDEST
                && room.ticks <= time
                && spaceIn(room) >= 0;
            if (!holds) {
                return false;
            }
        }
        return rooms.size() <= MOST_ROOMS;
    }

    private boolean arePalletsConsistent() {
        for (int i = 0; i < pallets.size(); i++) {
            Pallet pallet = pallets.get(i);
            boolean holds = pallet.number == i
                && pallet.lifeLeft >= 0
                && pallet.lifeLeft <= pallet.kind.fullLife
                && pallet.lifeLeft == pallet.recordedLife(time);
            if (!holds) {
                return false;
            }
        }
        return pallets.size() <= MOST_PALLETS && kinds.size() <= MOST_KINDS;
    }

    private boolean areOrdersConsistent() {
        for (int i = 0; i < orders.size(); i++) {
            Order order = orders.get(i);
            if (order.status == OPEN && order.due <= time) {
                return false;
            }
        }
        return orders.size() <= MOST_ORDERS;
    }

    /** The prices, the peak, the charge and the power limit. */
    private static final class Contract {
        int normalPrice = 10;
        int peakPrice = 10;
        // At first the peak is empty: no quarter belongs to it, and none comes before it.
        int firstPeak = 0;
        int lastPeak = -1;
        int charge = 0;
        int limit = MOST_POWER;

        boolean isPeak(int quarter) {
            return quarter >= firstPeak && quarter <= lastPeak;
        }

        boolean isAheadOfPeak(int quarter, int most) {
            return quarter < firstPeak && firstPeak - quarter <= most;
        }

        int priceIn(int quarter) {
            return isPeak(quarter) ? peakPrice : normalPrice;
        }
    }

    /** The power that was used: what was added up tick by tick, and the records of all ticks. */
    private static final class Meter {
        final int[] powers = new int[LAST_TIME];
        final int[] prices = new int[LAST_TIME];
        int latest = 0;
        int greatest = 0;
        long costs = 0;

        void record(int tick, int used, int price) {
            if (tick >= 0 && tick < powers.length && tick < prices.length) {
                powers[tick] = used;
                prices[tick] = price;
            }
            latest = used;
            greatest = Math.max(greatest, used);
            costs += (long) used * price;
        }

        long recordedCosts(int ticks) {
            long sum = 0;
            for (int i = 0; i < ticks && i < powers.length && i < prices.length; i++) {
                sum += (long) powers[i] * prices[i];
            }
            return sum;
        }

        int recordedGreatest(int ticks) {
            int found = 0;
            for (int i = 0; i < ticks && i < powers.length; i++) {
                found = Math.max(found, powers[i]);
            }
            return found;
        }
    }

    /** A room with its thermostat, its temperature, and the temperatures at the ends of all ticks. */
    private static final class Room {
        final int number;
        final int leak;
        final int strength;
        final int kilowatts;
        final int[] records = new int[LAST_TIME];
        int lower = 20;
        int upper = 50;
        char mode = AUTOMATIC;
        int leadTicks = 0;
        int leadDepth = 0;
        int degrees;
        boolean wanting = false;
        boolean waiting = false;
        boolean cooled = false;
        int ticks = 0;
        int sum = 0;
        int greatest = COLDEST;

        Room(int number, int leak, int strength, int kilowatts, int degrees) {
            this.number = number;
            this.leak = leak;
            this.strength = strength;
            this.kilowatts = kilowatts;
            this.degrees = degrees;
        }

        void decide(Contract contract, int quarter) {
            if (mode == ON) {
                wanting = true;
            } else if (mode == NEVER) {
                wanting = false;
            } else {
                int shift = shiftIn(contract, quarter);
                if (degrees > upper + shift) {
                    wanting = true;
                } else if (degrees <= lower + shift) {
                    wanting = false;
                }
            }
        }

        int shiftIn(Contract contract, int quarter) {
            if (contract.isPeak(quarter)) {
                return leadDepth;
            }
            return contract.isAheadOfPeak(quarter, leadTicks) ? -leadDepth : 0;
        }

        int excess() {
            return degrees - upper;
        }

        void changeTemperature(int outside, int tick) {
            int changed = degrees + (outside - degrees) * leak / 100;
            if (cooled) {
                changed -= strength;
            }
            degrees = Math.max(COLDEST, changed);
            if (tick >= 0 && tick < records.length) {
                records[tick] = degrees;
            }
            ticks++;
            sum += degrees;
            greatest = Math.max(greatest, degrees);
        }

        int recordedAt(int tick) {
            return tick >= 0 && tick < records.length ? records[tick] : degrees;
        }
    }

    private static final class Kind {
        final int fullLife;
        final int best;
        final int lowest;

        Kind(int fullLife, int best, int lowest) {
            this.fullLife = fullLife;
            this.best = best;
            this.lowest = lowest;
        }

        int lossAt(int degrees) {
            if (degrees < lowest) {
                return 10;
            }
            return degrees > best ? 1 + (degrees - best) / 20 : 1;
        }
    }

    /** The record that a pallet was in a room from a time on, with the stay before it (null at the first). */
    private static final class Stay {
        final Room room;
        final int since;
        final Stay earlier;

        Stay(Room room, int since, Stay earlier) {
            this.room = room;
            this.since = since;
            this.earlier = earlier;
        }
    }

    private static final class Pallet {
        final int number;
        final Kind kind;
        Stay stay;
        char status = IN_ROOM;
        int leftAt = LAST_TIME;
        int lifeLeft;

        Pallet(int number, Kind kind, Room room, int since) {
            this.number = number;
            this.kind = kind;
            this.stay = new Stay(room, since, null);
            this.lifeLeft = kind.fullLife;
        }

        boolean isInRoom() {
            return status == IN_ROOM;
        }

        boolean isAheadOf(Pallet other) {
            return lifeLeft < other.lifeLeft || (lifeLeft == other.lifeLeft && number < other.number);
        }

        void enter(Room room, int now) {
            // A stay in which no tick passed tells nothing; leaving it out keeps the chain as short as the time.
            Stay earlier = stay.since == now ? stay.earlier : stay;
            stay = new Stay(room, now, earlier);
        }

        void leave(char newStatus, int now) {
            status = newStatus;
            leftAt = now;
        }

        void loseLife() {
            if (isInRoom()) {
                lifeLeft = Math.max(0, lifeLeft - kind.lossAt(stay.room.degrees));
            }
        }

        int recordedLife(int now) {
            int loss = 0;
            int end = isInRoom() ? now : leftAt;
            for (Stay past = stay; past != null; past = past.earlier) {
                for (int tick = past.since; tick < end; tick++) {
                    loss += kind.lossAt(past.room.recordedAt(tick));
                }
                end = past.since;
            }
            return Math.max(0, kind.fullLife - loss);
        }
    }

    private static final class Order {
        final Kind kind;
        final int count;
        final int promise;
        final int due;
        char status = OPEN;
        int leastLife = 0;

        Order(Kind kind, int count, int promise, int due) {
            this.kind = kind;
            this.count = count;
            this.promise = promise;
            this.due = due;
        }

        boolean accepts(Pallet pallet) {
            return pallet.isInRoom() && pallet.kind == kind && pallet.lifeLeft >= promise;
        }
    }
}
