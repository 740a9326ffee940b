import java.lang.reflect.Constructor;
import java.lang.reflect.Field;
import java.lang.reflect.Method;
import java.lang.reflect.Modifier;
import java.util.Arrays;
import java.util.Map;
import java.util.Set;
import java.util.TreeMap;
import java.util.TreeSet;

/** The public face, member by member: nothing is missing, and nothing else can be seen. */
final class FaceTest {
    private static final Map<String, Integer> METHODS = new TreeMap<>();

    static {
        for (String name : "erase fault summer undo forget".split(" ")) {
            METHODS.put(name, 0);
        }
        for (String name : "write hang again send soap hour keep back plan needed kinds drop sum count".split(" ")) {
            METHODS.put(name, 1);
        }
        for (String name : "cloud deep washer water as wash takes later stands".split(" ")) {
            METHODS.put(name, 2);
        }
        for (String name : "seen line peg".split(" ")) {
            METHODS.put(name, 3);
        }
        METHODS.put("lightning", 4);
        METHODS.put("pin", 4);
        METHODS.put("move", 5);
    }

    private FaceTest() {
    }

    static void run(Check check) throws Exception {
        check.part("face");
        int type = CloudLaundry.class.getModifiers();
        check.holds("public and final", Modifier.isPublic(type) && Modifier.isFinal(type));
        constants(check);
        constructors(check);
        methods(check);
    }

    private static void constants(Check check) throws Exception {
        String[] names = "NONE UNKNOWN OUTSIDE NOT FULL NULL INDEX STORE CAST EMPTY SIZE".split(" ");
        int[] values = {-1, -2, -3, -4, -5, -11, -12, -13, -14, -15, -16};
        for (int i = 0; i < names.length; i++) {
            Field field = CloudLaundry.class.getDeclaredField(names[i]);
            check.holds(names[i] + " is public, static, final, int",
                field.getModifiers() == (Modifier.PUBLIC | Modifier.STATIC | Modifier.FINAL) && field.getType() == int.class);
            check.due(names[i], field.getInt(null), values[i]);
        }
        Set<String> told = new TreeSet<>(Arrays.asList(names));
        for (Field field : CloudLaundry.class.getDeclaredFields()) {
            check.holds("field " + field.getName(), told.contains(field.getName()) || Modifier.isPrivate(field.getModifiers()));
        }
    }

    private static void constructors(Check check) {
        Constructor<?>[] all = CloudLaundry.class.getDeclaredConstructors();
        check.due("constructors", all.length, 1);
        check.holds("it is public and takes nothing", Modifier.isPublic(all[0].getModifiers()) && all[0].getParameterCount() == 0);
    }

    private static void methods(Check check) {
        int found = 0;
        for (Method method : CloudLaundry.class.getDeclaredMethods()) {
            Integer parameters = METHODS.get(method.getName());
            if (parameters == null) {
                check.holds("method " + method.getName() + " is private", Modifier.isPrivate(method.getModifiers()));
                continue;
            }
            found++;
            check.due("parameters of " + method.getName(), method.getParameterCount(), parameters);
            check.holds(method.getName() + " is public and answers an int",
                method.getModifiers() == Modifier.PUBLIC && method.getReturnType() == int.class);
            for (Class<?> type : method.getParameterTypes()) {
                check.holds(method.getName() + " takes ints", type == int.class);
            }
        }
        check.due("methods of the face", found, METHODS.size());
    }
}
