import java.lang.reflect.Constructor;
import java.lang.reflect.Field;
import java.lang.reflect.Method;
import java.lang.reflect.Modifier;
import java.util.Set;
import java.util.TreeSet;

/** The face of the class is the document's, and nothing else of it is seen from outside. */
public final class FaceTest {
    private static final String[] FACE = {
        "boolean isConsistent()",
        "boolean isCooled(int)",
        "char orderState(int)",
        "char setMode(int,char)",
        "char state(int)",
        "double meanTemperature(int)",
        "float lostShare()",
        "int addKind(int,int,int)",
        "int addPallet(int,int)",
        "int addRoom(int,int,int)",
        "int cancel(int)",
        "int candidateAt(int,int)",
        "int candidates(int)",
        "int forecast(int,int)",
        "int freeSpace(int)",
        "int greatestPower()",
        "int leastShipped(int)",
        "int life(int)",
        "int lifeByRecords(int)",
        "int movePallet(int,int)",
        "int now()",
        "int order(int,int,int,int)",
        "int pallets()",
        "int pass(int)",
        "int power()",
        "int roomOf(int)",
        "int scrap(int)",
        "int setCharge(int)",
        "int setLead(int,int,int)",
        "int setLimits(int,int,int)",
        "int setOutside(int)",
        "int setPowerLimit(int)",
        "int setPrices(int,int,int,int)",
        "int ship(int)",
        "int soonest()",
        "int temperature(int)",
        "int warmest(int)",
        "long bill()",
        "long billByRecords()",
    };

    public static void main(String[] args) {
        Class<?> store = ColdStore.class;
        int modifiers = store.getModifiers();
        Check.holds("the class is public and final", Modifier.isPublic(modifiers) && Modifier.isFinal(modifiers));
        checkMethods(store);
        for (Field field : store.getDeclaredFields()) {
            Check.holds("the field " + field.getName() + " is private", Modifier.isPrivate(field.getModifiers()));
        }
        Constructor<?>[] constructors = store.getDeclaredConstructors();
        Check.same("the number of constructors", constructors.length, 1);
        Check.same("the parameters of the constructor", constructors[0].getParameterCount(), 0);
        Check.holds("the constructor is public", Modifier.isPublic(constructors[0].getModifiers()));
        Check.end();
    }

    private static void checkMethods(Class<?> store) {
        Set<String> seen = new TreeSet<>();
        Set<String> publicNames = new TreeSet<>();
        for (Method method : store.getDeclaredMethods()) {
            if (Modifier.isPublic(method.getModifiers())) {
                seen.add(describe(method));
                publicNames.add(method.getName());
            }
        }
        Check.same("the public methods", seen.toString(), new TreeSet<>(Set.of(FACE)).toString());
        for (Method method : store.getDeclaredMethods()) {
            int modifiers = method.getModifiers();
            if (!Modifier.isPublic(modifiers)) {
                Check.holds(method.getName() + " is private", Modifier.isPrivate(modifiers));
                Check.holds(method.getName() + " has a name of its own", !publicNames.contains(method.getName()));
            }
        }
    }

    private static String describe(Method method) {
        StringBuilder text = new StringBuilder();
        text.append(method.getReturnType().getSimpleName()).append(' ').append(method.getName()).append('(');
        Class<?>[] parameters = method.getParameterTypes();
        for (int i = 0; i < parameters.length; i++) {
            text.append(i == 0 ? "" : ",").append(parameters[i].getSimpleName());
        }
        return text.append(')').toString();
    }
}
