import java.io.IOException;
import java.lang.reflect.Method;
import java.lang.reflect.Modifier;
import java.nio.file.Files;
import java.nio.file.Path;

/** README.md names each call of the class, and its example answers what is written there. */
public final class ReadmeTest {
    public static void main(String[] args) throws IOException {
        String readme = Files.readString(Path.of("README.md"));
        namesEachCall(readme);
        example(readme);
        Check.end();
    }

    private static void namesEachCall(String readme) {
        for (Method method : ColdStore.class.getDeclaredMethods()) {
            if (Modifier.isPublic(method.getModifiers())) {
                Check.holds("README.md names " + method.getName(), readme.contains("`" + method.getName() + "`"));
            }
        }
    }

    private static void example(String readme) {
        ColdStore store = new ColdStore();
        int room = store.addRoom(10, 30, 40);
        store.setPrices(7, 31, 40, 48);
        store.setLead(room, 4, 10);
        store.setCharge(100);
        int kind = store.addKind(500, 40, -10);
        int pallet = store.addPallet(kind, room);
        int order = store.order(kind, 1, 300, 96);
        written(readme, "store.pass(96);", "" + store.pass(96));
        written(readme, "store.orderState(order);", "'" + store.orderState(order) + "'");
        written(readme, "store.leastShipped(order);", "" + store.leastShipped(order));
        written(readme, "store.temperature(room);", "" + store.temperature(room));
        written(readme, "store.bill();", "" + store.bill());
        Check.same("the bill by records", store.billByRecords(), store.bill());
        Check.refuses("store.scrap(pallet)", store, java.util.NoSuchElementException.class, () -> store.scrap(pallet));
    }

    /** The line of the example that begins with the call must have the answer behind it. */
    private static void written(String readme, String call, String answer) {
        for (String line : readme.split("\n")) {
            if (line.startsWith(call)) {
                String told = line.substring(line.indexOf("//") + 2).trim();
                Check.same("README.md on " + call, told.split(":")[0], answer);
                return;
            }
        }
        Check.holds("README.md has the line " + call, false);
    }
}
