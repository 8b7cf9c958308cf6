import java.util.NoSuchElementException;

/** Promises 33 to 40, and what happens at the end of a tick. */
public final class OrdersTest {
    private static final Class<?> ILLEGAL = IllegalArgumentException.class;
    private static final Class<?> STATE = IllegalStateException.class;
    private static final Class<?> INDEX = IndexOutOfBoundsException.class;
    private static final Class<?> NONE = NoSuchElementException.class;
    private static final Class<?> UNABLE = UnsupportedOperationException.class;

    public static void main(String[] args) {
        ordering();
        tooManyOrders();
        cancelling();
        candidates();
        shipping();
        refusedShipping();
        dueOrders();
        dueAfterTheLoss();
        orderOfDueOrders();
        noLifePromised();
        Check.end();
    }

    private static void ordering() {
        ColdStore store = Twins.steady(100, 50);
        store.pass(5);
        Check.refuses("33: no such kind", store, INDEX, () -> store.order(2, 1, 0, 10));
        Check.refuses("33: no such kind", store, INDEX, () -> store.order(-1, 0, 0, 0));
        int[][] wrong = {
            {0, 0, 10}, {9, 0, 10}, {-1, 0, 10}, {1, -1, 10}, {1, 10000, 10}, {1, 0, 5}, {1, 0, 4},
            {1, 0, 961}, {1, 0, Integer.MIN_VALUE}, {1, 0, Integer.MAX_VALUE},
        };
        for (int[] n : wrong) {
            Check.refuses("33: out of range", store, ILLEGAL, () -> store.order(0, n[0], n[1], n[2]));
        }
        Check.same("33: the least", store.order(0, 1, 0, 6), 0);
        Check.same("33: the most", store.order(1, 8, 9999, 960), 1);
        Check.same("38: open", store.orderState(0), 'o');
        Check.same("38: open", store.orderState(1), 'o');
        Check.refuses("39: not shipped", store, NONE, () -> store.leastShipped(0));
        for (int bad : new int[] {-1, 2, Integer.MIN_VALUE, Integer.MAX_VALUE}) {
            Check.refuses("34: no such order", store, INDEX, () -> store.cancel(bad));
            Check.refuses("35: no such order", store, INDEX, () -> store.candidates(bad));
            Check.refuses("36: no such order", store, INDEX, () -> store.candidateAt(bad, -1));
            Check.refuses("37: no such order", store, INDEX, () -> store.ship(bad));
            Check.refuses("38: no such order", store, INDEX, () -> store.orderState(bad));
            Check.refuses("39: no such order", store, INDEX, () -> store.leastShipped(bad));
        }
    }

    private static void tooManyOrders() {
        ColdStore store = Twins.steady(100);
        for (int i = 0; i < 12; i++) {
            Check.same("33: the next", store.order(0, 1, 0, 1 + i), i);
        }
        Check.refuses("33: the 13th", store, STATE, () -> store.order(0, 1, 0, 1));
        Check.refuses("33: the range comes first", store, ILLEGAL, () -> store.order(0, 1, 0, 0));
        Check.refuses("33: no such kind comes first", store, INDEX, () -> store.order(1, 1, 0, 0));
        store.cancel(0);
        Check.refuses("33: cancelled ones count", store, STATE, () -> store.order(0, 1, 0, 1));
    }

    private static void cancelling() {
        ColdStore store = Twins.steady(100);
        store.order(0, 1, 0, 1);
        store.order(0, 1, 0, 2);
        store.order(0, 1, 0, 3);
        Check.same("34: two are left", store.cancel(1), 2);
        Check.same("38: cancelled", store.orderState(1), 'c');
        Check.refuses("34: not twice", store, STATE, () -> store.cancel(1));
        Check.refuses("37: cancelled", store, STATE, () -> store.ship(1));
        Check.refuses("39: cancelled", store, NONE, () -> store.leastShipped(1));
        store.pass(1);
        Check.same("38: missed", store.orderState(0), 'm');
        Check.refuses("34: missed", store, STATE, () -> store.cancel(0));
        Check.refuses("37: missed", store, STATE, () -> store.ship(0));
        Check.refuses("39: missed", store, NONE, () -> store.leastShipped(0));
        store.addPallet(0, 0);
        store.pass(1);
        Check.same("38: it stays cancelled", store.orderState(1), 'c');
        Check.same("26: nothing was shipped for it", store.state(0), 'r');
        store.order(0, 1, 0, 100);
        store.ship(3);
        Check.refuses("34: shipped", store, STATE, () -> store.cancel(3));
        Check.same("34: none is left", store.cancel(2), 0);
    }

    private static String candidates(ColdStore store, int order) {
        StringBuilder text = new StringBuilder();
        for (int i = 0; i < store.candidates(order); i++) {
            text.append(i == 0 ? "" : " ").append(store.candidateAt(order, i));
        }
        Check.refuses("36: behind the last", store, NONE, () -> store.candidateAt(order, store.candidates(order)));
        Check.refuses("36: before the first", store, NONE, () -> store.candidateAt(order, -1));
        Check.refuses("36: far behind", store, NONE, () -> store.candidateAt(order, Integer.MAX_VALUE));
        Check.refuses("36: far before", store, NONE, () -> store.candidateAt(order, Integer.MIN_VALUE));
        return text.toString();
    }

    private static void candidates() {
        ColdStore store = Twins.steady(100, 100);
        store.order(0, 2, 0, 50);
        store.order(0, 2, 98, 50);
        store.order(1, 8, 0, 50);
        Check.same("35: none", candidates(store, 0), "");
        store.addPallet(0, 0);
        store.addPallet(0, 1);
        store.addPallet(1, 1);
        store.pass(2);
        store.addPallet(0, 0);
        store.addPallet(0, 0);
        Check.same("36: less life, lower number", candidates(store, 0), "0 1 3 4");
        Check.same("36: the promise is just held", candidates(store, 1), "0 1 3 4");
        Check.same("36: of its kind", candidates(store, 2), "2");
        store.pass(1);
        Check.same("36: the promise is not held", candidates(store, 1), "3 4");
        store.scrap(1);
        Check.same("36: not in a room", candidates(store, 0), "0 3 4");
        store.cancel(0);
        Check.same("36: of a cancelled order", candidates(store, 0), "0 3 4");
        store.ship(1);
        Check.same("36: of a shipped order", candidates(store, 1), "");
        Check.same("36: of a cancelled order", candidates(store, 0), "0");
        store.addPallet(0, 0);
        Check.same("36: of a shipped order", candidates(store, 1), "5");
        Check.same("36: less life first", candidates(store, 0), "0 5");
        movedOnesLiveLonger();
    }

    private static void movedOnesLiveLonger() {
        ColdStore store = new ColdStore();
        store.addRoom(1, 1, 1);
        store.setOutside(0);
        store.addRoom(1, 1, 1);
        store.addKind(500, 50, -10);
        store.order(0, 3, 0, 50);
        store.addPallet(0, 1);
        store.addPallet(0, 0);
        store.addPallet(0, 1);
        store.addPallet(0, 0);
        store.pass(3);
        Check.same("36: the warm ones first", candidates(store, 0), "1 3 0 2");
        int sum = store.life(1) + store.life(3) + store.life(0);
        int least = store.life(1);
        Check.same("37: the sum", store.ship(0), sum);
        Check.same("39: the least", store.leastShipped(0), least);
        Check.same("26: the last candidate stays", store.state(2), 'r');
    }

    private static void shipping() {
        ColdStore store = Twins.steady(100);
        store.addPallet(0, 0);
        store.pass(10);
        store.addPallet(0, 1);
        store.addPallet(0, 0);
        store.pass(5);
        store.order(0, 2, 0, 16);
        Check.same("37: whenever it is due", store.ship(0), 85 + 95);
        Check.same("38: shipped", store.orderState(0), 's');
        Check.same("39: the least", store.leastShipped(0), 85);
        Check.same("26: first candidate", store.state(0), 's');
        Check.same("26: second candidate", store.state(1), 's');
        Check.same("26: third candidate", store.state(2), 'r');
        Check.refuses("37: not twice", store, STATE, () -> store.ship(0));
        Check.refuses("23: shipped", store, NONE, () -> store.movePallet(0, 1));
        Check.refuses("30: shipped", store, NONE, () -> store.forecast(0, 1));
        Check.same("3: it is not shipped again", store.pass(3), 0);
        Check.same("39: the least stays", store.leastShipped(0), 85);
        store.order(0, 1, 92, 960);
        Check.same("37: exactly the promise", store.ship(1), 92);
        Check.same("39: the least", store.leastShipped(1), 92);
        Check.holds("40", store.isConsistent());
    }

    private static void refusedShipping() {
        ColdStore store = Twins.steady(100);
        store.order(0, 2, 50, 60);
        Check.refuses("37: no candidate", store, UNABLE, () -> store.ship(0));
        store.addPallet(0, 0);
        Check.refuses("37: one is too few", store, UNABLE, () -> store.ship(0));
        Check.same("38: still open", store.orderState(0), 'o');
        store.addPallet(0, 0);
        store.pass(51);
        Check.refuses("37: too little life", store, UNABLE, () -> store.ship(0));
        store.cancel(0);
        Check.refuses("37: not open comes first", store, STATE, () -> store.ship(0));
    }

    private static void dueOrders() {
        ColdStore store = Twins.steady(100, 200);
        store.addPallet(0, 0);
        store.addPallet(0, 0);
        store.order(0, 1, 0, 3);
        store.order(0, 2, 0, 4);
        store.order(0, 1, 0, 5);
        store.order(1, 1, 0, 960);
        Check.same("3: not due", store.pass(2), 0);
        Check.same("38: open", store.orderState(0), 'o');
        Check.same("3: shipped", store.pass(1), 1);
        Check.same("38: shipped", store.orderState(0), 's');
        Check.same("39: the least", store.leastShipped(0), 97);
        Check.same("3: missed", store.pass(1), 0);
        Check.same("38: missed", store.orderState(1), 'm');
        Check.same("26: nothing is shipped for a missed one", store.state(1), 'r');
        Check.same("3: shipped", store.pass(1), 1);
        Check.same("39: the least", store.leastShipped(2), 95);
        for (int i = 0; i < 9; i++) {
            store.pass(96);
        }
        store.addPallet(1, 0);
        Check.same("3: up to the end", store.pass(90), 0);
        Check.same("3: due at the end", store.pass(1), 1);
        Check.same("39: the least", store.leastShipped(3), 109);
    }

    private static void dueAfterTheLoss() {
        ColdStore store = Twins.steady(100);
        store.addPallet(0, 0);
        store.order(0, 1, 99, 1);
        store.addPallet(0, 0);
        Check.same("3: enough after the tick", store.pass(1), 1);
        store.order(0, 1, 99, 2);
        Check.same("35: enough before the tick", store.candidates(1), 1);
        Check.same("3: too little after the tick", store.pass(1), 0);
        Check.same("38: missed", store.orderState(1), 'm');
        Check.same("28: the shipped one lost life in its last tick", store.life(0), 99);
        Check.same("29: the shipped one lost life in its last tick", store.lifeByRecords(0), 99);
    }

    private static void orderOfDueOrders() {
        ColdStore store = Twins.steady(100);
        store.addPallet(0, 0);
        store.pass(1);
        store.addPallet(0, 0);
        store.addPallet(0, 0);
        store.order(0, 2, 0, 2);
        store.order(0, 2, 0, 2);
        store.order(0, 1, 99, 2);
        Check.same("3: the first and the last", store.pass(1), 2);
        Check.same("38: shipped", store.orderState(0), 's');
        Check.same("38: missed", store.orderState(1), 'm');
        Check.same("38: shipped", store.orderState(2), 's');
        Check.same("39: the least", store.leastShipped(0), 98);
        Check.same("39: the least", store.leastShipped(2), 99);
    }

    private static void noLifePromised() {
        ColdStore store = Twins.steady(1);
        for (int i = 0; i < 8; i++) {
            store.addPallet(0, 0);
        }
        store.order(0, 8, 0, 50);
        store.order(0, 8, 1, 50);
        store.pass(3);
        Check.same("35: no life is enough for the promise of 0", store.candidates(0), 8);
        Check.same("35: but not for the promise of 1", store.candidates(1), 0);
        Check.same("37: the sum", store.ship(0), 0);
        Check.same("39: the least", store.leastShipped(0), 0);
        Check.same("13: all are gone", store.freeSpace(0), 8);
    }
}
