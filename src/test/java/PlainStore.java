import java.util.ArrayList;
import java.util.List;

/**
 * The document once more, written another way than the class: everything that happened is kept, and
 * lives and bills are always counted anew from it. Calls answer texts, exceptions by their names.
 */
final class PlainStore {
    static final String INDEX = "IndexOutOfBoundsException";
    static final String ILLEGAL = "IllegalArgumentException";
    static final String STATE = "IllegalStateException";
    static final String NONE = "NoSuchElementException";
    static final String UNABLE = "UnsupportedOperationException";
    static final String ARITHMETIC = "ArithmeticException";

    private int outside = 250;
    private int limit = 400;
    private int charge = 0;
    private int[] prices = {10, 10};
    private boolean[] peak = new boolean[96];
    private final List<int[]> roomNumbers = new ArrayList<>();
    private final List<int[]> settings = new ArrayList<>();
    private final List<Character> modes = new ArrayList<>();
    private final List<Integer> degrees = new ArrayList<>();
    private final List<Boolean> wants = new ArrayList<>();
    private final List<Integer> firstTicks = new ArrayList<>();
    private final List<int[]> kinds = new ArrayList<>();
    private final List<Integer> kindOf = new ArrayList<>();
    private final List<Integer> places = new ArrayList<>();
    private final List<int[]> orders = new ArrayList<>();
    private final List<Character> orderStates = new ArrayList<>();
    private final List<Integer> leasts = new ArrayList<>();
    /** For each tick: the temperatures, the cooled rooms, the place of each pallet, and power and price. */
    private final List<int[]> pastDegrees = new ArrayList<>();
    private final List<boolean[]> pastCooled = new ArrayList<>();
    private final List<int[]> pastPlaces = new ArrayList<>();
    private final List<int[]> pastCosts = new ArrayList<>();

    String now() {
        return "" + pastCosts.size();
    }

    private int time() {
        return pastCosts.size();
    }

    String pass(int ticks) {
        if (ticks < 1 || ticks > 96) {
            return ILLEGAL;
        }
        if (ticks + time() > 960) {
            return STATE;
        }
        int shipped = 0;
        while (ticks-- > 0) {
            shipped += tick();
        }
        return "" + shipped;
    }

    private int tick() {
        int n = degrees.size();
        int quarter = time() % 96;
        for (int r = 0; r < n; r++) {
            wants.set(r, wants(r, quarter));
        }
        List<Integer> queue = new ArrayList<>();
        for (int r = 0; r < n; r++) {
            if (wants.get(r)) {
                queue.add(r);
            }
        }
        queue.sort((a, b) -> (degrees.get(b) - settings.get(b)[1]) - (degrees.get(a) - settings.get(a)[1]));
        boolean[] cooled = new boolean[n];
        int used = 0;
        for (int r : queue) {
            int asked = roomNumbers.get(r)[2];
            cooled[r] = used + asked <= limit;
            used += cooled[r] ? asked : 0;
        }
        int[] ends = new int[n];
        for (int r = 0; r < n; r++) {
            long product = (long) (outside - degrees.get(r)) * roomNumbers.get(r)[0];
            long change = Long.signum(product) * (Math.abs(product) / 100);
            long end = degrees.get(r) + change - (cooled[r] ? roomNumbers.get(r)[1] : 0);
            ends[r] = (int) (end < -400 ? -400 : end);
            degrees.set(r, ends[r]);
        }
        int[] held = new int[places.size()];
        for (int p = 0; p < held.length; p++) {
            held[p] = places.get(p);
        }
        pastDegrees.add(ends);
        pastCooled.add(cooled);
        pastPlaces.add(held);
        pastCosts.add(new int[] {used, peak[quarter] ? prices[1] : prices[0]});
        return settle();
    }

    private boolean wants(int r, int quarter) {
        if (modes.get(r) != 'a') {
            return modes.get(r) == 'o';
        }
        int[] s = settings.get(r);
        int shift = 0;
        if (peak[quarter]) {
            shift = s[3];
        } else {
            // The peak is one stretch: the first peak quarter that is met on the way is its first one,
            // unless the walk began behind the peak, where none is met at all.
            for (int ahead = 1; ahead <= s[2] && quarter + ahead < 96; ahead++) {
                if (peak[quarter + ahead]) {
                    shift = -s[3];
                }
            }
        }
        int t = degrees.get(r);
        return t > s[1] + shift || (t > s[0] + shift && wants.get(r));
    }

    private int settle() {
        int shipped = 0;
        for (int o = 0; o < orders.size(); o++) {
            if (orderStates.get(o) == 'o' && orders.get(o)[3] == time()) {
                if (queue(o).size() >= orders.get(o)[1]) {
                    send(o);
                    shipped++;
                } else {
                    orderStates.set(o, 'm');
                }
            }
        }
        return shipped;
    }

    private int send(int o) {
        List<Integer> queue = queue(o);
        int sum = 0;
        leasts.set(o, lifeOf(queue.get(0)));
        for (int i = 0; i < orders.get(o)[1]; i++) {
            sum += lifeOf(queue.get(i));
            places.set(queue.get(i), -1);
        }
        orderStates.set(o, 's');
        return sum;
    }

    private List<Integer> queue(int o) {
        List<Integer> queue = new ArrayList<>();
        for (int p = 0; p < places.size(); p++) {
            if (places.get(p) >= 0 && kindOf.get(p) == orders.get(o)[0] && lifeOf(p) >= orders.get(o)[2]) {
                queue.add(p);
            }
        }
        queue.sort((a, b) -> lifeOf(a) != lifeOf(b) ? lifeOf(a) - lifeOf(b) : a - b);
        return queue;
    }

    private int lifeOf(int p) {
        int life = kinds.get(kindOf.get(p))[0];
        for (int t = 0; t < time(); t++) {
            int[] held = pastPlaces.get(t);
            if (p < held.length && held[p] >= 0) {
                life = Math.max(0, life - loss(p, pastDegrees.get(t)[held[p]]));
            }
        }
        return life;
    }

    private int loss(int p, int temperature) {
        int[] kind = kinds.get(kindOf.get(p));
        int loss = 1;
        for (int above = 20; above <= temperature - kind[1]; above += 20) {
            loss++;
        }
        return temperature < kind[2] ? 10 : loss;
    }

    String setOutside(int temperature) {
        if (temperature < -300 || temperature > 450) {
            return ILLEGAL;
        }
        int previous = outside;
        outside = temperature;
        return "" + previous;
    }

    String addRoom(int leak, int strength, int power) {
        if (leak < 1 || leak > 50 || strength < 1 || strength > 100 || power < 1 || power > 100) {
            return ILLEGAL;
        }
        if (degrees.size() == 4) {
            return STATE;
        }
        roomNumbers.add(new int[] {leak, strength, power});
        settings.add(new int[] {20, 50, 0, 0});
        modes.add('a');
        wants.add(false);
        degrees.add(outside);
        firstTicks.add(time());
        return "" + (degrees.size() - 1);
    }

    private static boolean lacks(List<?> list, int index) {
        return index < 0 || index >= list.size();
    }

    String setLimits(int room, int lower, int upper) {
        if (lacks(degrees, room)) {
            return INDEX;
        }
        if (lower < -300 || lower > 300 || upper < lower || upper > 300) {
            return ILLEGAL;
        }
        int previous = settings.get(room)[0];
        settings.get(room)[0] = lower;
        settings.get(room)[1] = upper;
        return "" + previous;
    }

    String setMode(int room, char mode) {
        if (lacks(degrees, room)) {
            return INDEX;
        }
        if ("aon".indexOf(mode) < 0) {
            return ILLEGAL;
        }
        return "" + modes.set(room, mode);
    }

    String setLead(int room, int ticks, int depth) {
        if (lacks(degrees, room)) {
            return INDEX;
        }
        if (ticks < 0 || ticks > 16 || depth < 0 || depth > 100) {
            return ILLEGAL;
        }
        int previous = settings.get(room)[2];
        settings.get(room)[2] = ticks;
        settings.get(room)[3] = depth;
        return "" + previous;
    }

    String temperature(int room) {
        return lacks(degrees, room) ? INDEX : "" + degrees.get(room);
    }

    String isCooled(int room) {
        if (lacks(degrees, room)) {
            return INDEX;
        }
        return "" + (firstTicks.get(room) < time() && pastCooled.get(time() - 1)[room]);
    }

    String warmest(int room) {
        if (lacks(degrees, room)) {
            return INDEX;
        }
        if (firstTicks.get(room) == time()) {
            return NONE;
        }
        int greatest = Integer.MIN_VALUE;
        for (int t = firstTicks.get(room); t < time(); t++) {
            greatest = Math.max(greatest, pastDegrees.get(t)[room]);
        }
        return "" + greatest;
    }

    String meanTemperature(int room) {
        if (lacks(degrees, room)) {
            return INDEX;
        }
        if (firstTicks.get(room) == time()) {
            return ARITHMETIC;
        }
        int sum = 0;
        for (int t = firstTicks.get(room); t < time(); t++) {
            sum += pastDegrees.get(t)[room];
        }
        return "" + (double) sum / (double) (time() - firstTicks.get(room));
    }

    private int held(int room) {
        int held = 0;
        for (int place : places) {
            held += place == room ? 1 : 0;
        }
        return held;
    }

    String freeSpace(int room) {
        return lacks(degrees, room) ? INDEX : "" + (8 - held(room));
    }

    String setPrices(int normal, int inPeak, int first, int last) {
        if (normal < 0 || normal > 1000 || inPeak < 0 || inPeak > 1000
            || first < 0 || first > 95 || last < first || last > 95) {
            return ILLEGAL;
        }
        int previous = prices[0];
        prices = new int[] {normal, inPeak};
        peak = new boolean[96];
        for (int quarter = first; quarter <= last; quarter++) {
            peak[quarter] = true;
        }
        return "" + previous;
    }

    String setCharge(int cents) {
        if (cents < 0 || cents > 1000) {
            return ILLEGAL;
        }
        int previous = charge;
        charge = cents;
        return "" + previous;
    }

    String setPowerLimit(int kilowatts) {
        if (kilowatts < 0 || kilowatts > 400) {
            return ILLEGAL;
        }
        int previous = limit;
        limit = kilowatts;
        return "" + previous;
    }

    String power() {
        return "" + (time() == 0 ? 0 : pastCosts.get(time() - 1)[0]);
    }

    private int greatest() {
        int greatest = 0;
        for (int[] cost : pastCosts) {
            greatest = Math.max(greatest, cost[0]);
        }
        return greatest;
    }

    String greatestPower() {
        return "" + greatest();
    }

    String bill() {
        long bill = (long) greatest() * charge;
        for (int[] cost : pastCosts) {
            bill += (long) cost[0] * cost[1];
        }
        return "" + bill;
    }

    String addKind(int life, int best, int lowest) {
        if (life < 1 || life > 9999 || best < -300 || best > 300 || lowest < -400 || lowest >= best) {
            return ILLEGAL;
        }
        if (kinds.size() == 5) {
            return STATE;
        }
        kinds.add(new int[] {life, best, lowest});
        return "" + (kinds.size() - 1);
    }

    String addPallet(int kind, int room) {
        if (lacks(kinds, kind) || lacks(degrees, room)) {
            return INDEX;
        }
        if (places.size() == 24 || held(room) == 8) {
            return STATE;
        }
        kindOf.add(kind);
        places.add(room);
        return "" + (places.size() - 1);
    }

    String movePallet(int pallet, int room) {
        if (lacks(places, pallet) || lacks(degrees, room)) {
            return INDEX;
        }
        if (places.get(pallet) < 0) {
            return NONE;
        }
        if (places.get(pallet) != room && held(room) == 8) {
            return STATE;
        }
        return "" + places.set(pallet, room);
    }

    String scrap(int pallet) {
        if (lacks(places, pallet)) {
            return INDEX;
        }
        if (places.get(pallet) < 0) {
            return NONE;
        }
        places.set(pallet, -2);
        return "" + lifeOf(pallet);
    }

    String pallets() {
        return "" + places.size();
    }

    String state(int pallet) {
        if (lacks(places, pallet)) {
            return INDEX;
        }
        return places.get(pallet) >= 0 ? "r" : places.get(pallet) == -1 ? "s" : "x";
    }

    String roomOf(int pallet) {
        if (lacks(places, pallet)) {
            return INDEX;
        }
        return places.get(pallet) < 0 ? NONE : "" + places.get(pallet);
    }

    String life(int pallet) {
        return lacks(places, pallet) ? INDEX : "" + lifeOf(pallet);
    }

    String forecast(int pallet, int ticks) {
        if (lacks(places, pallet)) {
            return INDEX;
        }
        if (places.get(pallet) < 0) {
            return NONE;
        }
        if (ticks < 0 || ticks > 960) {
            return ILLEGAL;
        }
        int life = lifeOf(pallet);
        for (int i = 0; i < ticks; i++) {
            life = Math.max(0, life - loss(pallet, degrees.get(places.get(pallet))));
        }
        return "" + life;
    }

    String soonest() {
        int soonest = -1;
        for (int p = places.size() - 1; p >= 0; p--) {
            if (places.get(p) >= 0 && (soonest < 0 || lifeOf(p) <= lifeOf(soonest))) {
                soonest = p;
            }
        }
        return soonest < 0 ? NONE : "" + soonest;
    }

    String lostShare() {
        if (places.isEmpty()) {
            return ARITHMETIC;
        }
        int lost = 0;
        for (int p = 0; p < places.size(); p++) {
            lost += places.get(p) == -2 || lifeOf(p) == 0 ? 1 : 0;
        }
        return "" + (float) lost / (float) places.size();
    }

    String order(int kind, int count, int promise, int due) {
        if (lacks(kinds, kind)) {
            return INDEX;
        }
        if (count < 1 || count > 8 || promise < 0 || promise > 9999 || due <= time() || due > 960) {
            return ILLEGAL;
        }
        if (orders.size() == 12) {
            return STATE;
        }
        orders.add(new int[] {kind, count, promise, due});
        orderStates.add('o');
        leasts.add(-1);
        return "" + (orders.size() - 1);
    }

    String cancel(int order) {
        if (lacks(orders, order)) {
            return INDEX;
        }
        if (orderStates.get(order) != 'o') {
            return STATE;
        }
        orderStates.set(order, 'c');
        int open = 0;
        for (char state : orderStates) {
            open += state == 'o' ? 1 : 0;
        }
        return "" + open;
    }

    String candidates(int order) {
        return lacks(orders, order) ? INDEX : "" + queue(order).size();
    }

    String candidateAt(int order, int index) {
        if (lacks(orders, order)) {
            return INDEX;
        }
        List<Integer> queue = queue(order);
        return lacks(queue, index) ? NONE : "" + queue.get(index);
    }

    String ship(int order) {
        if (lacks(orders, order)) {
            return INDEX;
        }
        if (orderStates.get(order) != 'o') {
            return STATE;
        }
        return queue(order).size() < orders.get(order)[1] ? UNABLE : "" + send(order);
    }

    String orderState(int order) {
        return lacks(orders, order) ? INDEX : "" + orderStates.get(order);
    }

    String leastShipped(int order) {
        if (lacks(orders, order)) {
            return INDEX;
        }
        return orderStates.get(order) == 's' ? "" + leasts.get(order) : NONE;
    }
}
