/** Long runs of calls, the same in each test, on the class and on the plain store: both answer alike. */
public final class LongRunsTest {
    private static final int RUNS = 1500;
    private static final int CALLS = 512;
    private static final int KINDS_OF_CALLS = 39;
    /** Calls that most runs begin with, so that there are rooms, kinds, pallets and orders early. */
    private static final int[] BEGINNING = {4, 4, 4, 20, 20, 20, 21, 21, 21, 21, 21, 21, 21, 21, 21, 21, 32, 32, 32};

    private long seed;
    private final ColdStore store = new ColdStore();
    private final PlainStore plain = new PlainStore();
    private final int longestPass;
    private int ordersMade = 0;

    private LongRunsTest(long seed) {
        this.seed = seed * 7919 + 17;
        this.longestPass = seed % 3 == 0 ? 3 : seed % 3 == 1 ? 12 : 96;
    }

    public static void main(String[] args) {
        int[] asked = new int[KINDS_OF_CALLS];
        int[] refused = new int[KINDS_OF_CALLS];
        for (int run = 0; run < RUNS; run++) {
            LongRunsTest test = new LongRunsTest(run);
            for (int i = 0; i < CALLS; i++) {
                boolean begins = run % 4 != 0 && i < BEGINNING.length;
                int kind = begins ? BEGINNING[i] : test.draw(0, KINDS_OF_CALLS - 1);
                String due = test.step(kind, "run " + run + ", call " + i + ": ");
                asked[kind]++;
                refused[kind] += due.endsWith("Exception") ? 1 : 0;
            }
            Check.holds("run " + run + ": 40", test.store.isConsistent());
        }
        if (args.length > 0) {
            for (int kind = 0; kind < KINDS_OF_CALLS; kind++) {
                System.out.println("calls of the kind " + kind + ": " + asked[kind] + ", refused " + refused[kind]);
            }
        }
        Check.end();
    }

    private int draw(int least, int most) {
        seed = seed * 6364136223846793005L + 1442695040888963407L;
        if (most <= least) {
            return least;
        }
        return least + (int) ((seed >>> 33) % (most - least + 1));
    }

    /** A number of the range, often at its edges and now and then just outside it. */
    private int near(int least, int most) {
        int way = draw(0, 39);
        if (way == 0) {
            return least - 1;
        }
        if (way == 1) {
            return most + 1;
        }
        return way < 5 ? least : way < 8 ? most : draw(least, most);
    }

    /** The number of a thing of which there are some; now and then one that there is not. */
    private int pick(int some) {
        return draw(0, 30) == 0 ? draw(-1, some) : draw(0, Math.max(0, some - 1));
    }

    private int room() {
        return pick(count(plain.temperature(1), plain.temperature(2), plain.temperature(3)));
    }

    private int order() {
        return pick(Math.max(1, Math.min(12, ordersMade)));
    }

    private int pallet() {
        return pick(Math.max(1, Integer.parseInt(plain.pallets())));
    }

    private static int count(String... answers) {
        int count = 1;
        for (String answer : answers) {
            count += answer.equals(PlainStore.INDEX) ? 0 : 1;
        }
        return count;
    }

    private interface Asked {
        Object ask();
    }

    private static String answerOf(Asked asked) {
        try {
            return String.valueOf(asked.ask());
        } catch (RuntimeException e) {
            return e.getClass().getSimpleName();
        }
    }

    private String compare(String text, Asked asked, String due) {
        Check.same(text, answerOf(asked), due);
        return due;
    }

    private String step(int kind, String where) {
        if (kind < 13) {
            return stepOfRooms(kind, where);
        }
        if (kind < 20) {
            return stepOfPower(kind, where);
        }
        return kind < 32 ? stepOfPallets(kind, where) : stepOfOrders(kind, where);
    }

    private String stepOfRooms(int kind, String where) {
        int r = room();
        switch (kind) {
            case 0:
                return compare(where + "now", () -> store.now(), plain.now());
            case 1:
            case 2: {
                int n = draw(0, 40) == 0 ? near(1, 96) : near(1, longestPass);
                return compare(where + "pass(" + n + ")", () -> store.pass(n), plain.pass(n));
            }
            case 3: {
                int n = draw(0, 2) == 0 ? near(-300, 450) : draw(-50, 250);
                return compare(where + "setOutside(" + n + ")", () -> store.setOutside(n), plain.setOutside(n));
            }
            case 4: {
                int a = near(1, 50);
                int b = near(1, 100);
                int c = near(1, 100);
                return compare(where + "addRoom", () -> store.addRoom(a, b, c), plain.addRoom(a, b, c));
            }
            case 5: {
                int a = near(-300, 300);
                int b = draw(0, 9) == 0 ? near(-300, 300) : near(Math.min(300, a), Math.min(300, a + 60));
                return compare(where + "setLimits", () -> store.setLimits(r, a, b), plain.setLimits(r, a, b));
            }
            case 6: {
                char mode = "aaaaonx".charAt(draw(0, 6));
                return compare(where + "setMode", () -> store.setMode(r, mode), plain.setMode(r, mode));
            }
            case 7: {
                int a = near(0, 16);
                int b = near(0, 100);
                return compare(where + "setLead", () -> store.setLead(r, a, b), plain.setLead(r, a, b));
            }
            case 8:
                return compare(where + "temperature", () -> store.temperature(r), plain.temperature(r));
            case 9:
                return compare(where + "isCooled", () -> store.isCooled(r), plain.isCooled(r));
            case 10:
                return compare(where + "warmest", () -> store.warmest(r), plain.warmest(r));
            case 11:
                return compare(where + "meanTemperature", () -> store.meanTemperature(r), plain.meanTemperature(r));
            default:
                return compare(where + "freeSpace", () -> store.freeSpace(r), plain.freeSpace(r));
        }
    }

    private String stepOfPower(int kind, String where) {
        switch (kind) {
            case 13: {
                int a = near(0, 1000);
                int b = near(0, 1000);
                int c = draw(0, 1) == 0 ? near(0, 95) : Math.min(95, Integer.parseInt(plain.now()) % 96 + draw(0, 20));
                int d = draw(0, 5) == 0 ? near(0, 95) : near(c, 95);
                return compare(where + "setPrices", () -> store.setPrices(a, b, c, d), plain.setPrices(a, b, c, d));
            }
            case 14: {
                int n = near(0, 1000);
                return compare(where + "setCharge", () -> store.setCharge(n), plain.setCharge(n));
            }
            case 15: {
                int n = near(0, 400);
                return compare(where + "setPowerLimit", () -> store.setPowerLimit(n), plain.setPowerLimit(n));
            }
            case 16:
                return compare(where + "power", () -> store.power(), plain.power());
            case 17:
                return compare(where + "greatestPower", () -> store.greatestPower(), plain.greatestPower());
            case 18:
                return compare(where + "bill", () -> store.bill(), plain.bill());
            default:
                return compare(where + "billByRecords", () -> store.billByRecords(), plain.bill());
        }
    }

    private String stepOfPallets(int kind, String where) {
        int p = pallet();
        int r = room();
        switch (kind) {
            case 20: {
                int a = draw(0, 1) == 0 ? near(1, 9999) : draw(1, 300);
                int b = near(-300, 300);
                int c = draw(0, 5) == 0 ? near(-400, 300) : near(-400, Math.max(-400, b - 1));
                return compare(where + "addKind", () -> store.addKind(a, b, c), plain.addKind(a, b, c));
            }
            case 21: {
                int k = pick(3);
                return compare(where + "addPallet", () -> store.addPallet(k, r), plain.addPallet(k, r));
            }
            case 22:
                return compare(where + "movePallet", () -> store.movePallet(p, r), plain.movePallet(p, r));
            case 23: {
                int seldom = draw(0, 9) == 0 ? p : -1;
                return compare(where + "scrap", () -> store.scrap(seldom), plain.scrap(seldom));
            }
            case 24:
                return compare(where + "pallets", () -> store.pallets(), plain.pallets());
            case 25:
                return compare(where + "state", () -> store.state(p), plain.state(p));
            case 26:
                return compare(where + "roomOf", () -> store.roomOf(p), plain.roomOf(p));
            case 27:
                return compare(where + "life", () -> store.life(p), plain.life(p));
            case 28:
                return compare(where + "lifeByRecords", () -> store.lifeByRecords(p), plain.life(p));
            case 29: {
                int n = draw(0, 1) == 0 ? near(0, 960) : draw(0, 20);
                return compare(where + "forecast", () -> store.forecast(p, n), plain.forecast(p, n));
            }
            case 30:
                return compare(where + "soonest", () -> store.soonest(), plain.soonest());
            default:
                return compare(where + "lostShare", () -> store.lostShare(), plain.lostShare());
        }
    }

    private String stepOfOrders(int kind, String where) {
        int o = order();
        switch (kind) {
            case 32: {
                int k = pick(3);
                int count = draw(0, 3) == 0 ? near(1, 8) : draw(1, 2);
                int promise = draw(0, 3) == 0 ? near(0, 9999) : draw(0, 200);
                int now = Integer.parseInt(plain.now());
                int due = draw(0, 1) == 0 ? near(now + 1, 960) : now + draw(0, 60);
                ordersMade++;
                return compare(where + "order", () -> store.order(k, count, promise, due), plain.order(k, count, promise, due));
            }
            case 33: {
                int seldom = draw(0, 9) == 0 ? o : 12;
                return compare(where + "cancel", () -> store.cancel(seldom), plain.cancel(seldom));
            }
            case 34:
                return compare(where + "candidates", () -> store.candidates(o), plain.candidates(o));
            case 35: {
                int i = draw(0, 4) == 0 ? near(0, 23) : draw(0, 3);
                return compare(where + "candidateAt", () -> store.candidateAt(o, i), plain.candidateAt(o, i));
            }
            case 36: {
                int seldom = draw(0, 2) == 0 ? o : -1;
                return compare(where + "ship", () -> store.ship(seldom), plain.ship(seldom));
            }
            case 37:
                return compare(where + "orderState", () -> store.orderState(o), plain.orderState(o));
            default:
                return compare(where + "leastShipped", () -> store.leastShipped(o), plain.leastShipped(o));
        }
    }
}
