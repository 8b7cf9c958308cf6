/** If several conditions for an exception hold, the exception that is listed first is thrown. */
public final class FirstExceptionTest {
    public static void main(String[] args) {
        rangeBeforeTheEndOfTime();
        rangeBeforeFourRooms();
        roomBeforeRange();
        rangeBeforeFiveKinds();
        numberBeforeNoMorePallets();
        roomBeforeGonePallet();
        gonePalletBeforeFullRoom();
        palletBeforeGoneBeforeTicks();
        kindBeforeRangeBeforeTwelveOrders();
        orderBeforeIndex();
        openBeforeTooFew();
        Check.end();
    }

    private static void rangeBeforeTheEndOfTime() {
        for (int time : new int[] {864, 865, 959, 960}) {
            for (int ticks : new int[] {Integer.MIN_VALUE, -1, 0, 97, Integer.MAX_VALUE}) {
                Twins.refused("3: " + ticks + " ticks at " + time, () -> Twins.busyAt(time), Twins.ILLEGAL,
                    s -> s.pass(ticks));
            }
            int left = 960 - time;
            if (left >= 1) {
                Twins.taken("3: up to 960 from " + time, () -> Twins.busyAt(time), s -> s.pass(left));
            }
            if (left < 96) {
                Twins.refused("3: beyond 960 from " + time, () -> Twins.busyAt(time), Twins.STATE,
                    s -> s.pass(left + 1));
                Twins.refused("3: 96 ticks from " + time, () -> Twins.busyAt(time), Twins.STATE, s -> s.pass(96));
            }
        }
        Check.same("2: the greatest time", Twins.busyAt(960).now(), 960);
    }

    private static void rangeBeforeFourRooms() {
        int[][] wrong = {{0, 1, 1}, {51, 1, 1}, {1, 0, 1}, {1, 101, 1}, {1, 1, 0}, {1, 1, 101}};
        for (int[] n : wrong) {
            Twins.refused("5: a number before 4 rooms", Twins::full, Twins.ILLEGAL, s -> s.addRoom(n[0], n[1], n[2]));
        }
    }

    private static void roomBeforeRange() {
        for (int room : new int[] {-1, 3}) {
            Twins.refused("6: room before lower", Twins::busy, Twins.INDEX, s -> s.setLimits(room, -301, 0));
            Twins.refused("6: room before upper", Twins::busy, Twins.INDEX, s -> s.setLimits(room, 0, 301));
            Twins.refused("6: room before upper", Twins::busy, Twins.INDEX, s -> s.setLimits(room, 1, 0));
            Twins.refused("7: room before mode", Twins::busy, Twins.INDEX, s -> s.setMode(room, 'x'));
            Twins.refused("8: room before ticks", Twins::busy, Twins.INDEX, s -> s.setLead(room, 17, 0));
            Twins.refused("8: room before depth", Twins::busy, Twins.INDEX, s -> s.setLead(room, 0, 101));
            Twins.refused("11: room before no tick", () -> Twins.withRooms(3), Twins.INDEX, s -> s.warmest(room));
            Twins.refused("12: room before no tick", () -> Twins.withRooms(3), Twins.INDEX,
                s -> s.meanTemperature(room));
        }
    }

    private static void rangeBeforeFiveKinds() {
        int[][] wrong = {{0, 0, -1}, {10000, 0, -1}, {1, -301, -400}, {1, 301, 0}, {1, 0, -401}, {1, 0, 0}};
        for (int[] n : wrong) {
            Twins.refused("21: a number before 5 kinds", Twins::full, Twins.ILLEGAL, s -> s.addKind(n[0], n[1], n[2]));
        }
    }

    private static void numberBeforeNoMorePallets() {
        for (int wrong : new int[] {-1, 5}) {
            Twins.refused("22: kind before 24 pallets", Twins::full, Twins.INDEX, s -> s.addPallet(wrong, 3));
            Twins.refused("22: kind before full room", Twins::full, Twins.INDEX, s -> s.addPallet(wrong, 0));
            Twins.refused("22: room before 24 pallets", Twins::full, Twins.INDEX, s -> s.addPallet(0, wrong));
            Twins.refused("22: neither kind nor room", Twins::full, Twins.INDEX, s -> s.addPallet(wrong, wrong));
            Twins.refused("22: kind before full room alone", () -> Twins.withPallets(8), Twins.INDEX,
                s -> s.addPallet(wrong, 0));
        }
    }

    /** As many as there can be, of which the pallet 0 is scrapped; the order 0 is cancelled. */
    private static ColdStore fullWithGone() {
        ColdStore store = Twins.full();
        store.scrap(0);
        store.cancel(0);
        return store;
    }

    private static void roomBeforeGonePallet() {
        for (int wrong : new int[] {-1, 4}) {
            Twins.refused("23: room before gone", FirstExceptionTest::fullWithGone, Twins.INDEX,
                s -> s.movePallet(0, wrong));
            Twins.refused("23: neither pallet nor room", FirstExceptionTest::fullWithGone, Twins.INDEX,
                s -> s.movePallet(24, wrong));
        }
        for (int wrong : new int[] {-1, 24}) {
            Twins.refused("23: pallet before full room", FirstExceptionTest::fullWithGone, Twins.INDEX,
                s -> s.movePallet(wrong, 1));
        }
    }

    private static void gonePalletBeforeFullRoom() {
        for (int room = 0; room < 4; room++) {
            int asked = room;
            Twins.refused("23: gone before full", FirstExceptionTest::fullWithGone, Twins.NONE,
                s -> s.movePallet(0, asked));
        }
    }

    private static void palletBeforeGoneBeforeTicks() {
        for (int ticks : new int[] {-1, 961}) {
            Twins.refused("30: pallet before ticks", FirstExceptionTest::fullWithGone, Twins.INDEX,
                s -> s.forecast(24, ticks));
            Twins.refused("30: pallet before ticks", FirstExceptionTest::fullWithGone, Twins.INDEX,
                s -> s.forecast(-1, ticks));
            Twins.refused("30: gone before ticks", FirstExceptionTest::fullWithGone, Twins.NONE,
                s -> s.forecast(0, ticks));
            Twins.refused("30: ticks alone", FirstExceptionTest::fullWithGone, Twins.ILLEGAL,
                s -> s.forecast(1, ticks));
        }
    }

    private static void kindBeforeRangeBeforeTwelveOrders() {
        int[][] wrong = {{0, 0, 9}, {9, 0, 9}, {1, -1, 9}, {1, 10000, 9}, {1, 0, 0}, {1, 0, 961}};
        for (int[] n : wrong) {
            Twins.refused("33: a number before 12 orders", Twins::full, Twins.ILLEGAL,
                s -> s.order(0, n[0], n[1], n[2]));
            Twins.refused("33: kind before a number", Twins::busy, Twins.INDEX, s -> s.order(2, n[0], n[1], n[2]));
            Twins.refused("33: kind before all", Twins::full, Twins.INDEX, s -> s.order(-1, n[0], n[1], n[2]));
        }
        Twins.refused("33: kind before 12 orders", Twins::full, Twins.INDEX, s -> s.order(5, 1, 0, 9));
    }

    private static void orderBeforeIndex() {
        for (int wrong : new int[] {-1, 12}) {
            Twins.refused("36: order before index", Twins::full, Twins.INDEX, s -> s.candidateAt(wrong, -1));
            Twins.refused("36: order before index", Twins::full, Twins.INDEX, s -> s.candidateAt(wrong, 24));
        }
    }

    /** Orders for two pallets, of which there is none: the first is cancelled, the second is missed. */
    private static ColdStore closed() {
        ColdStore store = Twins.withKinds(1);
        store.order(0, 2, 0, 9);
        store.order(0, 2, 0, 1);
        store.cancel(0);
        store.pass(1);
        return store;
    }

    private static void openBeforeTooFew() {
        Twins.refused("37: cancelled before too few", FirstExceptionTest::closed, Twins.STATE, s -> s.ship(0));
        Twins.refused("37: missed before too few", FirstExceptionTest::closed, Twins.STATE, s -> s.ship(1));
        Twins.refused("37: no such order before all", FirstExceptionTest::closed, Twins.INDEX, s -> s.ship(2));
        Twins.refused("34: no such order before not open", FirstExceptionTest::closed, Twins.INDEX, s -> s.cancel(2));
        Twins.refused("39: no such order before not shipped", FirstExceptionTest::closed, Twins.INDEX,
            s -> s.leastShipped(2));
    }
}
