/** The first step of a tick: at which temperature and in which quarter a room wants to be cooled. */
public final class ThermostatTest {
    public static void main(String[] args) {
        firstLimits();
        aboveUpper();
        notAboveLower();
        betweenTheLimits();
        atFirstNotWanted();
        equalLimits();
        modesBefore();
        modesNow();
        loweredAheadOfPeak();
        raisedInPeak();
        firstQuarterOfLead();
        mostTicksOfLead();
        lastQuarterBeforePeak();
        leadOfNoTicks();
        leadOfNoDepth();
        firstAndLastQuarterOfPeak();
        peakOfOneQuarter();
        peakOfTheWholeDay();
        notRoundMidnight();
        peakFromMidnightOn();
        peakUntilMidnight();
        noPeakAtFirst();
        noLeadAtFirst();
        everyDayAnew();
        Check.end();
    }

    private static Thermostat peak(int first, int last, int leadTicks, int depth) {
        Thermostat room = new Thermostat();
        room.first = first;
        room.last = last;
        room.leadTicks = leadTicks;
        room.depth = depth;
        return room;
    }

    private static void firstLimits() {
        ColdStore store = new ColdStore();
        store.setOutside(51);
        store.addRoom(1, 1, 1);
        store.setOutside(50);
        store.addRoom(1, 1, 1);
        store.setOutside(51);
        store.pass(1);
        Check.holds("5: the upper limit is 50: above it", store.isCooled(0));
        Check.holds("5: the upper limit is 50: at it", !store.isCooled(1));
        for (int tick = 0; tick < 50 && store.temperature(0) > 20; tick++) {
            store.setOutside(store.temperature(0));
            store.pass(1);
            Check.holds("5: the lower limit is 20: above it", store.isCooled(0));
        }
        store.setOutside(20);
        store.pass(1);
        Check.holds("5: the lower limit is 20: at it", !store.isCooled(0));
    }

    private static void aboveUpper() {
        new Thermostat().turnsAt("greater than the upper limit", 50, 1);
        new Thermostat().limits(-300, 300).turnsAt("greater than the greatest upper limit", 300, 1);
        new Thermostat().limits(-300, -300).turnsAt("greater than the least upper limit", -300, 1);
        Check.holds("far above", new Thermostat().wantsAt(450, 1));
    }

    private static void notAboveLower() {
        new Thermostat().wanted().turnsAt("less than or equal to the lower limit", 20, 1);
        Check.holds("less than the lower limit", !new Thermostat().wanted().wantsAt(19, 1));
        Check.holds("far below", !new Thermostat().wanted().wantsAt(-300, 1));
        new Thermostat().wanted().limits(-299, 300).turnsAt("a lower limit below zero", -299, 1);
    }

    private static void betweenTheLimits() {
        for (int temperature : new int[] {21, 35, 50}) {
            Check.holds("wants what it wanted", new Thermostat().wanted().wantsAt(temperature, 1));
            Check.holds("does not want what it did not want", !new Thermostat().wantsAt(temperature, 1));
        }
    }

    private static void atFirstNotWanted() {
        for (int time : new int[] {0, 1, 95, 959}) {
            ColdStore store = new ColdStore();
            Twins.passTo(store, time);
            store.setOutside(50);
            store.addRoom(1, 1, 1);
            store.pass(1);
            Check.holds("at first, it does not want to be cooled", !store.isCooled(0));
        }
    }

    private static void equalLimits() {
        new Thermostat().limits(30, 30).turnsAt("equal limits", 30, 1);
        new Thermostat().limits(30, 30).wanted().turnsAt("equal limits, wanted before", 30, 1);
    }

    private static void modesBefore() {
        for (char before : new char[] {'a', 'o', 'n'}) {
            ColdStore store = new ColdStore();
            store.setOutside(40);
            store.addRoom(1, 1, 1);
            store.setPowerLimit(0);
            store.setMode(0, 'o');
            store.pass(1);
            store.setMode(0, before);
            store.pass(1);
            store.setMode(0, 'a');
            store.setPowerLimit(1);
            store.pass(1);
            Check.same("wanted before, in the mode " + before, store.power(), before == 'n' ? 0 : 1);
        }
    }

    private static void modesNow() {
        ColdStore store = new ColdStore();
        store.setOutside(450);
        store.addRoom(1, 1, 1);
        store.setMode(0, 'n');
        store.pass(1);
        Check.holds("7: 'n' does not want to be, however warm", !store.isCooled(0));
        store.setOutside(-300);
        store.addRoom(1, 1, 1);
        store.setMode(1, 'o');
        store.pass(1);
        Check.holds("7: 'o' wants to be, however cold", store.isCooled(1));
        store.setPrices(10, 10, 0, 95);
        store.setLead(1, 16, 100);
        store.setLead(0, 16, 100);
        store.pass(1);
        Check.holds("7: 'o' in the peak", store.isCooled(1));
        Check.holds("7: 'n' in the peak", !store.isCooled(0));
    }

    private static void loweredAheadOfPeak() {
        peak(40, 50, 4, 7).turnsAt("the upper limit is lowered", 43, 39);
        peak(40, 50, 4, 7).wanted().turnsAt("the lower limit is lowered", 13, 39);
        peak(40, 50, 4, 100).turnsAt("by the greatest depth", -50, 39);
        peak(40, 50, 4, 100).wanted().turnsAt("by the greatest depth", -80, 39);
        peak(40, 50, 4, 1).turnsAt("by the least depth", 49, 39);
        peak(40, 50, 4, 100).limits(-200, -200).wanted()
            .turnsAt("to the coldest outside", -300, 39);
    }

    private static void raisedInPeak() {
        peak(40, 50, 4, 7).turnsAt("the upper limit is raised", 57, 45);
        peak(40, 50, 4, 7).wanted().turnsAt("the lower limit is raised", 27, 45);
        peak(40, 50, 4, 100).turnsAt("by the greatest depth", 150, 45);
        peak(40, 50, 4, 100).wanted().turnsAt("by the greatest depth", 120, 45);
        peak(40, 50, 4, 1).turnsAt("by the least depth", 51, 45);
        peak(40, 50, 4, 100).limits(300, 300).turnsAt("above the greatest limit", 400, 45);
    }

    private static void firstQuarterOfLead() {
        for (int ticks : new int[] {1, 2, 15, 16}) {
            peak(40, 50, ticks, 7).turnsAt("by as many quarters as the lead has ticks", 43, 40 - ticks);
            peak(40, 50, ticks, 7).turnsAt("by one quarter more", 50, 40 - ticks - 1);
        }
    }

    private static void mostTicksOfLead() {
        for (int quarter = 20; quarter < 40; quarter++) {
            peak(40, 50, 16, 7).turnsAt("the lead of 16 ticks", quarter < 24 ? 50 : 43, quarter);
        }
    }

    private static void lastQuarterBeforePeak() {
        for (int first : new int[] {2, 40, 95}) {
            peak(first, 95, 1, 7).turnsAt("one quarter before the first", 43, first - 1);
            peak(first, 95, 1, 7).turnsAt("the first", 57, first);
        }
    }

    private static void leadOfNoTicks() {
        peak(40, 50, 0, 7).turnsAt("no quarter comes before by 0", 50, 39);
        peak(40, 50, 0, 7).turnsAt("raised in the peak, though the lead has 0 ticks", 57, 40);
        peak(40, 50, 0, 7).turnsAt("raised in the peak, though the lead has 0 ticks", 57, 50);
        peak(40, 50, 0, 7).turnsAt("behind the peak", 50, 51);
    }

    private static void leadOfNoDepth() {
        for (int quarter : new int[] {24, 39, 40, 50, 51}) {
            peak(40, 50, 16, 0).turnsAt("the depth 0 changes nothing", 50, quarter);
            peak(40, 50, 16, 0).wanted().turnsAt("the depth 0 changes nothing", 20, quarter);
        }
    }

    private static void firstAndLastQuarterOfPeak() {
        peak(40, 50, 2, 7).turnsAt("before the first quarter", 43, 39);
        peak(40, 50, 2, 7).turnsAt("the first quarter, included", 57, 40);
        peak(40, 50, 2, 7).turnsAt("the last quarter, included", 57, 50);
        peak(40, 50, 2, 7).turnsAt("behind the last quarter", 50, 51);
    }

    private static void peakOfOneQuarter() {
        peak(40, 40, 1, 7).turnsAt("before the only quarter", 43, 39);
        peak(40, 40, 1, 7).turnsAt("the only quarter", 57, 40);
        peak(40, 40, 1, 7).turnsAt("behind the only quarter", 50, 41);
    }

    private static void peakOfTheWholeDay() {
        for (int tick = 1; tick <= 97; tick++) {
            peak(0, 95, 16, 7).turnsAt("each quarter is in the peak", 57, tick);
        }
    }

    private static void notRoundMidnight() {
        peak(5, 6, 16, 7).turnsAt("the first quarter of the day", 43, 96);
        peak(5, 6, 16, 7).turnsAt("the last quarter of the day before", 50, 95);
        for (int quarter = 80; quarter < 96; quarter++) {
            peak(1, 1, 16, 7).turnsAt("the end of the day before", 50, quarter);
        }
        peak(1, 1, 16, 7).turnsAt("the first quarter of the day", 43, 96);
    }

    private static void peakFromMidnightOn() {
        peak(0, 0, 16, 7).turnsAt("the first quarter of the next day", 57, 96);
        peak(0, 0, 16, 7).turnsAt("no quarter comes before it", 50, 95);
        peak(0, 0, 16, 7).turnsAt("behind it", 50, 1);
    }

    private static void peakUntilMidnight() {
        peak(95, 95, 16, 7).turnsAt("too far before it", 50, 78);
        peak(95, 95, 16, 7).turnsAt("just before it", 43, 79);
        peak(95, 95, 16, 7).turnsAt("the last quarter of the day", 57, 95);
        peak(95, 95, 16, 7).turnsAt("the first quarter of the next day", 50, 96);
        peak(95, 95, 16, 7).turnsAt("the last quarter of the last day", 57, 959);
    }

    private static void noPeakAtFirst() {
        for (int tick = 1; tick <= 97; tick++) {
            peak(-1, -1, 16, 100).turnsAt("no peak, no lead", 50, tick);
        }
        peak(-1, -1, 16, 100).turnsAt("no peak at the end", 50, 959);
    }

    private static void noLeadAtFirst() {
        // The lead is left as it is in a new room; wantsAt would set it.
        for (int peak = 0; peak <= 1; peak++) {
            for (int temperature : new int[] {50, 51}) {
                ColdStore store = new ColdStore();
                store.setOutside(temperature);
                store.addRoom(1, 1, 1);
                store.setPrices(10, 10, peak, peak);
                store.pass(1);
                Check.same("8: no depth at first, peak at " + peak, store.power(), temperature - 50);
            }
        }
        ColdStore store = new ColdStore();
        store.addRoom(1, 1, 1);
        Check.same("8: 0 ticks at first", store.setLead(0, 3, 9), 0);
    }

    private static void everyDayAnew() {
        for (int day = 0; day < 10; day++) {
            peak(40, 50, 2, 7).turnsAt("two quarters before the first", 43, 96 * day + 38);
            peak(40, 50, 2, 7).turnsAt("three quarters before the first", 50, 96 * day + 37);
            peak(40, 50, 2, 7).turnsAt("the last quarter", 57, 96 * day + 50);
        }
    }

    /** A room in the mode 'a', with what it wanted in the tick before. */
    private static final class Thermostat {
        private int lower = 20;
        private int upper = 50;
        private int leadTicks = 0;
        private int depth = 0;
        /** The peak; none is set if first is -1. */
        private int first = -1;
        private int last = -1;
        private boolean wantedBefore = false;

        Thermostat wanted() {
            wantedBefore = true;
            return this;
        }

        Thermostat limits(int newLower, int newUpper) {
            lower = newLower;
            upper = newUpper;
            return this;
        }

        /** Whether the room wants to be cooled at the temperature in the tick, of which there is one before it. */
        boolean wantsAt(int temperature, int tick) {
            ColdStore store = new ColdStore();
            store.setOutside(temperature);
            store.addRoom(1, 1, 1);
            store.setMode(0, 'n');
            Twins.passTo(store, tick - 1);
            // Without power the room keeps its temperature, though it may want to be cooled.
            store.setPowerLimit(0);
            store.setMode(0, wantedBefore ? 'o' : 'n');
            store.pass(1);
            store.setPowerLimit(400);
            store.setMode(0, 'a');
            store.setLimits(0, lower, upper);
            store.setLead(0, leadTicks, depth);
            if (first >= 0) {
                store.setPrices(10, 10, first, last);
            }
            Check.same("the temperature in the tick " + tick, store.temperature(0), temperature);
            store.pass(1);
            return store.isCooled(0);
        }

        /** The room wants to be cooled above the temperature and not at it. */
        void turnsAt(String what, int temperature, int tick) {
            Check.holds(what + ": not at " + temperature + " in the tick " + tick, !wantsAt(temperature, tick));
            Check.holds(what + ": above " + temperature + " in the tick " + tick, wantsAt(temperature + 1, tick));
        }
    }
}
