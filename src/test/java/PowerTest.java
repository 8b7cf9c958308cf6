/** Promises 14 to 20, and the first four steps of a tick. */
public final class PowerTest {
    private static final Class<?> ILLEGAL = IllegalArgumentException.class;

    public static void main(String[] args) {
        prices();
        charge();
        powerLimit();
        pricesOfThePast();
        peakOfTheDay();
        hysteresis();
        wantOutlivesMode();
        wantWithoutPower();
        lead();
        leadRoundMidnight();
        leadWithoutTicks();
        noDepthAtFirst();
        noPeakNoLead();
        orderOfPower();
        powerSkipsAndGoesOn();
        wholeRun();
        Check.end();
    }

    private static void prices() {
        ColdStore store = new ColdStore();
        int[][] wrong = {
            {-1, 0, 0, 0}, {1001, 0, 0, 0}, {0, -1, 0, 0}, {0, 1001, 0, 0},
            {0, 0, -1, 0}, {0, 0, 96, 96}, {0, 0, 5, 4}, {0, 0, 0, 96}, {0, 0, 95, 94},
        };
        for (int[] n : wrong) {
            Check.refuses("14: out of range", store, ILLEGAL, () -> store.setPrices(n[0], n[1], n[2], n[3]));
        }
        Check.same("14: previous", store.setPrices(0, 0, 0, 0), 10);
        Check.same("14: previous", store.setPrices(1000, 7, 95, 95), 0);
        Check.same("14: previous", store.setPrices(5, 1000, 0, 95), 1000);
        Check.same("14: previous", store.setPrices(6, 6, 3, 3), 5);
    }

    private static void charge() {
        ColdStore store = new ColdStore();
        Check.refuses("15: out of range", store, ILLEGAL, () -> store.setCharge(-1));
        Check.refuses("15: out of range", store, ILLEGAL, () -> store.setCharge(1001));
        Check.same("15: previous", store.setCharge(1000), 0);
        Check.same("15: previous", store.setCharge(3), 1000);
        Check.same("19: no tick", store.bill(), 0);
        store.addRoom(1, 1, 40);
        store.pass(1);
        Check.same("19: with the charge", store.bill(), 400 + 120);
        Check.same("20: with the charge", store.billByRecords(), 400 + 120);
        store.setMode(0, 'n');
        store.pass(1);
        Check.same("19: the charge is for the greatest power", store.bill(), 400 + 120);
        Check.same("15: previous", store.setCharge(0), 3);
        Check.same("19: the present charge", store.bill(), 400);
        Check.same("20: the present charge", store.billByRecords(), 400);
    }

    private static void powerLimit() {
        ColdStore store = new ColdStore();
        Check.refuses("16: out of range", store, ILLEGAL, () -> store.setPowerLimit(-1));
        Check.refuses("16: out of range", store, ILLEGAL, () -> store.setPowerLimit(401));
        for (int i = 0; i < 4; i++) {
            store.addRoom(1, 1, 100);
        }
        Check.same("17: no tick", store.power(), 0);
        Check.same("18: no tick", store.greatestPower(), 0);
        store.pass(1);
        Check.same("16: 400 at first", store.power(), 400);
        Check.same("16: previous", store.setPowerLimit(0), 400);
        Check.same("17: the latest tick", store.power(), 400);
        store.pass(1);
        Check.same("17: no power", store.power(), 0);
        Check.same("18: the greatest", store.greatestPower(), 400);
        Check.same("16: previous", store.setPowerLimit(399), 0);
        store.pass(1);
        Check.same("17: three rooms", store.power(), 300);
        Check.holds("16: the last room", !store.isCooled(3));
        Check.same("16: previous", store.setPowerLimit(400), 399);
        Check.same("18: the greatest", store.greatestPower(), 400);
        Check.same("19: bill", store.bill(), 7000);
        Check.same("20: bill", store.billByRecords(), 7000);
    }

    private static void pricesOfThePast() {
        ColdStore store = new ColdStore();
        store.addRoom(1, 1, 3);
        store.setMode(0, 'o');
        store.pass(2);
        store.setPrices(100, 1000, 3, 3);
        store.pass(1);
        Check.same("19: normal", store.bill(), 3 * (10 + 10 + 100));
        store.pass(1);
        Check.same("19: peak", store.bill(), 3 * (10 + 10 + 100 + 1000));
        store.setPrices(0, 0, 0, 95);
        Check.same("19: nothing changes for the past", store.bill(), 3 * 1120);
        Check.same("20: nothing changes for the past", store.billByRecords(), 3 * 1120);
        store.pass(1);
        Check.same("19: free", store.bill(), 3 * 1120);
        Check.same("20: free", store.billByRecords(), 3 * 1120);
    }

    private static void peakOfTheDay() {
        ColdStore store = new ColdStore();
        store.addRoom(1, 1, 1);
        store.setMode(0, 'o');
        store.setPrices(1, 100, 2, 4);
        int[] due = {1, 2, 102, 202, 302, 303, 304};
        for (int i = 0; i < due.length; i++) {
            store.pass(1);
            Check.same("19: after quarter " + i, store.bill(), due[i]);
        }
        store.pass(89);
        Check.same("19: a day", store.bill(), 300 + 93);
        store.pass(2);
        Check.same("19: quarters 0 and 1 of the next day", store.bill(), 300 + 95);
        store.pass(1);
        Check.same("19: quarter 2 of the next day", store.bill(), 400 + 95);
        for (int i = 0; i < 8; i++) {
            store.pass(96);
        }
        Check.same("20: nine days and more", store.billByRecords(), store.bill());
        Check.same("20: nine days and more", store.billByRecords(), 9 * (300 + 93) + 100 + 2);
    }

    private static void hysteresis() {
        ColdStore store = new ColdStore();
        store.setOutside(0);
        store.addRoom(1, 1, 1);
        store.setOutside(51);
        store.setLimits(0, -2, 0);
        store.pass(1);
        Check.holds("3: equal to the upper limit, not wanted before", !store.isCooled(0));
        store.setOutside(100);
        store.pass(1);
        Check.same("3: warmer", store.temperature(0), 1);
        store.setOutside(0);
        store.pass(1);
        Check.holds("3: above the upper limit", store.isCooled(0));
        store.pass(1);
        Check.holds("3: 0 is between, wanted before", store.isCooled(0));
        store.pass(1);
        Check.holds("3: -1 is between, wanted before", store.isCooled(0));
        store.pass(1);
        Check.holds("3: -2 is equal to the lower limit", !store.isCooled(0));
        store.setOutside(98);
        store.pass(1);
        Check.same("3: warmer", store.temperature(0), -1);
        store.pass(1);
        Check.holds("3: between, not wanted before", !store.isCooled(0));
    }

    private static void wantOutlivesMode() {
        ColdStore store = new ColdStore();
        store.setOutside(40);
        store.addRoom(1, 1, 1);
        store.setMode(0, 'o');
        store.pass(1);
        store.setMode(0, 'a');
        store.pass(1);
        Check.holds("3: wanted in the mode 'o' before", store.isCooled(0));
        store.setMode(0, 'n');
        store.pass(1);
        Check.holds("3: never", !store.isCooled(0));
        store.setMode(0, 'a');
        store.pass(1);
        Check.holds("3: not wanted in the mode 'n' before", !store.isCooled(0));
        store.setMode(0, 'o');
        store.setMode(0, 'a');
        store.pass(1);
        Check.holds("3: no tick in the mode 'o'", !store.isCooled(0));
    }

    private static void wantWithoutPower() {
        ColdStore store = new ColdStore();
        store.setOutside(60);
        store.addRoom(50, 1, 10);
        store.setPowerLimit(9);
        store.setOutside(40);
        store.pass(1);
        Check.same("3: between the limits", store.temperature(0), 50);
        store.setPowerLimit(10);
        store.pass(1);
        Check.holds("3: it wanted in the tick before, without power", store.isCooled(0));
    }

    private static ColdStore storeAt(int temperature) {
        ColdStore store = new ColdStore();
        store.setOutside(temperature);
        store.addRoom(1, 1, 1);
        return store;
    }

    private static void lead() {
        ColdStore store = storeAt(45);
        store.setPrices(10, 20, 4, 5);
        store.setLead(0, 2, 10);
        store.setLimits(0, 45, 45);
        store.pass(2);
        Check.same("3: three quarters before the peak", store.greatestPower(), 0);
        store.pass(1);
        Check.holds("3: two quarters before the peak", store.isCooled(0));
        store.pass(1);
        Check.holds("3: one quarter before the peak", store.isCooled(0));
        store.pass(1);
        Check.holds("3: in the peak", !store.isCooled(0));
        ColdStore edge = storeAt(45);
        edge.setPrices(10, 20, 4, 5);
        edge.setLead(0, 2, 10);
        edge.setLimits(0, 55, 55);
        edge.pass(4);
        Check.same("3: 45 is not above 55 - 10", edge.greatestPower(), 0);
        ColdStore peak = storeAt(65);
        peak.setPrices(10, 20, 1, 2);
        peak.setLead(0, 0, 10);
        peak.setLimits(0, 55, 55);
        peak.pass(1);
        Check.holds("3: before the peak", peak.isCooled(0));
        peak.pass(1);
        Check.holds("3: 64 is not above 65", !peak.isCooled(0));
        peak.pass(1);
        Check.holds("3: the last quarter of the peak", !peak.isCooled(0));
        peak.pass(1);
        Check.holds("3: after the peak", peak.isCooled(0));
    }

    private static void leadRoundMidnight() {
        ColdStore store = storeAt(45);
        store.setPrices(10, 20, 2, 3);
        store.setLead(0, 16, 10);
        store.pass(1);
        Check.holds("3: ahead of the peak", store.isCooled(0));
        store.setMode(0, 'n');
        store.pass(1);
        store.setMode(0, 'a');
        store.pass(94);
        Check.same("3: nothing goes round midnight", store.power(), 0);
        Check.same("3: nothing goes round midnight", store.bill(), 10);
        store.pass(1);
        Check.same("3: ahead of the peak of the next day", store.power(), 1);
    }

    private static void leadWithoutTicks() {
        ColdStore store = storeAt(45);
        store.setPrices(10, 20, 1, 1);
        store.setLead(0, 0, 100);
        store.pass(1);
        Check.holds("3: no lead", !store.isCooled(0));
        store.setLead(0, 1, 4);
        store.setPrices(10, 20, 2, 2);
        store.pass(1);
        Check.holds("3: 45 is not above 46", !store.isCooled(0));
        store.setLead(0, 1, 6);
        store.setPrices(10, 20, 3, 3);
        store.pass(1);
        Check.holds("3: 45 is above 44", store.isCooled(0));
        store.setLead(0, 1, 25);
        store.setPrices(10, 20, 3, 3);
        store.pass(1);
        Check.holds("3: the lower limit is raised to 45", !store.isCooled(0));
    }

    private static void noDepthAtFirst() {
        ColdStore store = storeAt(51);
        store.setPrices(10, 10, 0, 0);
        store.pass(1);
        Check.holds("8: nothing is raised in the peak", store.isCooled(0));
        ColdStore ahead = storeAt(50);
        ahead.setPrices(10, 10, 1, 1);
        ahead.pass(1);
        Check.holds("8: nothing is lowered ahead of the peak", !ahead.isCooled(0));
    }

    private static void noPeakNoLead() {
        ColdStore store = storeAt(45);
        store.setLead(0, 16, 100);
        store.pass(96);
        store.pass(96);
        Check.same("3: there is no peak at first", store.greatestPower(), 0);
        store.addRoom(1, 1, 1);
        store.setLimits(1, 0, 44);
        store.setLead(1, 16, 100);
        store.pass(1);
        Check.holds("3: no quarter is in the peak at first", store.isCooled(1));
    }

    private static void orderOfPower() {
        ColdStore store = new ColdStore();
        for (int i = 0; i < 4; i++) {
            store.addRoom(1, 10, 10);
        }
        store.setLimits(0, 0, 100);
        store.setLimits(1, 0, 90);
        store.setLimits(2, 0, 80);
        store.setLimits(3, 0, 80);
        store.setPowerLimit(10);
        store.pass(1);
        Check.same("3: the lowest number of the warmest", cooled(store), "--+-");
        store.pass(1);
        Check.same("3: then the other", cooled(store), "---+");
        store.setPowerLimit(39);
        store.pass(1);
        Check.same("3: the least warm has to wait", cooled(store), "-+++");
        store.setPowerLimit(40);
        store.pass(1);
        Check.same("3: all", cooled(store), "++++");
        ColdStore raised = new ColdStore();
        raised.addRoom(1, 10, 10);
        raised.addRoom(1, 10, 10);
        raised.setLimits(0, 0, 99);
        raised.setLimits(1, 0, 100);
        raised.setLead(0, 0, 100);
        raised.setPrices(1, 1, 0, 95);
        raised.setPowerLimit(10);
        raised.pass(1);
        Check.same("3: the upper limit is not raised for the order", cooled(raised), "+-");
    }

    private static void powerSkipsAndGoesOn() {
        ColdStore store = new ColdStore();
        store.addRoom(1, 10, 60);
        store.addRoom(1, 10, 50);
        store.addRoom(1, 10, 40);
        store.setLimits(0, 0, 10);
        store.setLimits(1, 0, 20);
        store.setLimits(2, 0, 30);
        store.setPowerLimit(100);
        store.pass(1);
        Check.same("3: 60 + 40", cooled(store), "+-+");
        Check.same("17: 60 + 40", store.power(), 100);
        store.setPowerLimit(99);
        store.setLimits(1, 0, 240);
        store.pass(1);
        Check.same("3: 60 alone", cooled(store), "+--");
        store.setPowerLimit(59);
        store.pass(1);
        Check.same("3: not 60, then 40", cooled(store), "--+");
        Check.same("18: greatest", store.greatestPower(), 100);
        Check.same("19: bill", store.bill(), 10 * (100 + 60 + 40));
    }

    private static String cooled(ColdStore store) {
        StringBuilder text = new StringBuilder();
        int rooms = 0;
        try {
            for (; rooms < 5; rooms++) {
                text.append(store.isCooled(rooms) ? '+' : '-');
            }
        } catch (IndexOutOfBoundsException e) {
            return text.toString();
        }
        return text.toString();
    }

    private static void wholeRun() {
        ColdStore store = new ColdStore();
        for (int i = 0; i < 4; i++) {
            store.addRoom(50, 1, 100);
            store.setMode(i, 'o');
        }
        store.setPrices(1000, 1000, 0, 95);
        store.setCharge(1000);
        for (int i = 0; i < 10; i++) {
            store.pass(96);
        }
        Check.same("19: the dearest bill", store.bill(), 400L * 1000 * 961);
        Check.same("20: the dearest bill", store.billByRecords(), 400L * 1000 * 961);
        Check.holds("40", store.isConsistent());
    }
}
