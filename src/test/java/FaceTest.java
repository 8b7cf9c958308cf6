import java.lang.reflect.Constructor;
import java.lang.reflect.Field;
import java.lang.reflect.Method;
import java.lang.reflect.Modifier;
import java.util.Set;
import java.util.TreeSet;

/** The face of the class is the document's, and nothing else of it is seen from outside. */
public final class FaceTest {
    private static final String[] FACE = {
        "boolean isConsistent()",
        "boolean isCooled(int) throws IndexOutOfBoundsException",
        "char orderState(int) throws IndexOutOfBoundsException",
        "char setMode(int,char) throws IndexOutOfBoundsException,IllegalArgumentException",
        "char state(int) throws IndexOutOfBoundsException",
        "double meanTemperature(int) throws IndexOutOfBoundsException,ArithmeticException",
        "float lostShare() throws ArithmeticException",
        "int addKind(int,int,int) throws IllegalArgumentException,IllegalStateException",
        "int addPallet(int,int) throws IndexOutOfBoundsException,IllegalStateException",
        "int addRoom(int,int,int) throws IllegalArgumentException,IllegalStateException",
        "int cancel(int) throws IndexOutOfBoundsException,IllegalStateException",
        "int candidateAt(int,int) throws IndexOutOfBoundsException,NoSuchElementException",
        "int candidates(int) throws IndexOutOfBoundsException",
        "int forecast(int,int) throws IndexOutOfBoundsException,NoSuchElementException,IllegalArgumentException",
        "int freeSpace(int) throws IndexOutOfBoundsException",
        "int greatestPower()",
        "int leastShipped(int) throws IndexOutOfBoundsException,NoSuchElementException",
        "int life(int) throws IndexOutOfBoundsException",
        "int lifeByRecords(int) throws IndexOutOfBoundsException",
        "int movePallet(int,int) throws IndexOutOfBoundsException,NoSuchElementException,IllegalStateException",
        "int now()",
        "int order(int,int,int,int) throws IndexOutOfBoundsException,IllegalArgumentException,IllegalStateException",
        "int pallets()",
        "int pass(int) throws IllegalArgumentException,IllegalStateException",
        "int power()",
        "int roomOf(int) throws IndexOutOfBoundsException,NoSuchElementException",
        "int scrap(int) throws IndexOutOfBoundsException,NoSuchElementException",
        "int setCharge(int) throws IllegalArgumentException",
        "int setLead(int,int,int) throws IndexOutOfBoundsException,IllegalArgumentException",
        "int setLimits(int,int,int) throws IndexOutOfBoundsException,IllegalArgumentException",
        "int setOutside(int) throws IllegalArgumentException",
        "int setPowerLimit(int) throws IllegalArgumentException",
        "int setPrices(int,int,int,int) throws IllegalArgumentException",
        "int ship(int) throws IndexOutOfBoundsException,IllegalStateException,UnsupportedOperationException",
        "int soonest() throws NoSuchElementException",
        "int temperature(int) throws IndexOutOfBoundsException",
        "int warmest(int) throws IndexOutOfBoundsException,NoSuchElementException",
        "long bill()",
        "long billByRecords()",
    };

    public static void main(String[] args) {
        Class<?> store = ColdStore.class;
        int modifiers = store.getModifiers();
        Check.holds("the class is public and final", Modifier.isPublic(modifiers) && Modifier.isFinal(modifiers));
        checkMethods(store);
        for (Field field : store.getDeclaredFields()) {
            Check.holds("the field " + field.getName() + " is private", Modifier.isPrivate(field.getModifiers()));
        }
        Constructor<?>[] constructors = store.getDeclaredConstructors();
        Check.same("the number of constructors", constructors.length, 1);
        Check.same("the parameters of the constructor", constructors[0].getParameterCount(), 0);
        Check.holds("the constructor is public", Modifier.isPublic(constructors[0].getModifiers()));
        Check.end();
    }

    private static void checkMethods(Class<?> store) {
        Set<String> seen = new TreeSet<>();
        Set<String> publicNames = new TreeSet<>();
        for (Method method : store.getDeclaredMethods()) {
            if (Modifier.isPublic(method.getModifiers())) {
                seen.add(describe(method));
                publicNames.add(method.getName());
            }
        }
        Check.same("the public methods", seen.toString(), new TreeSet<>(Set.of(FACE)).toString());
        for (Method method : store.getDeclaredMethods()) {
            int modifiers = method.getModifiers();
            if (!Modifier.isPublic(modifiers)) {
                Check.holds(method.getName() + " is private", Modifier.isPrivate(modifiers));
                Check.holds(method.getName() + " has a name of its own", !publicNames.contains(method.getName()));
            }
        }
    }

    private static String describe(Method method) {
        StringBuilder text = new StringBuilder();
        text.append(method.getReturnType().getSimpleName()).append(' ').append(method.getName()).append('(');
        Class<?>[] parameters = method.getParameterTypes();
        for (int i = 0; i < parameters.length; i++) {
            text.append(i == 0 ? "" : ",").append(parameters[i].getSimpleName());
        }
        text.append(')');
        Class<?>[] exceptions = method.getExceptionTypes();
        for (int i = 0; i < exceptions.length; i++) {
            text.append(i == 0 ? " throws " : ",").append(exceptions[i].getSimpleName());
        }
        return text.toString();
    }
}
