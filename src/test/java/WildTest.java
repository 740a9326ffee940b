import java.lang.reflect.Method;
import java.util.ArrayList;
import java.util.Comparator;
import java.util.List;
import java.util.Random;

/** No call throws, whatever its arguments, in whatever state. */
final class WildTest {
    private static final int[] WILD = {Integer.MIN_VALUE, Integer.MIN_VALUE + 1, -65536, -12, -1, 0, 1, 2, 7, 16, 31, 32, 63, 64, 65535,
        Integer.MAX_VALUE - 1, Integer.MAX_VALUE};

    private WildTest() {
    }

    static void run(Check check) throws Exception {
        check.part("wild arguments");
        List<Method> calls = new ArrayList<>();
        for (Method method : CloudLaundry.class.getMethods()) {
            if (method.getDeclaringClass() == CloudLaundry.class) {
                calls.add(method);
            }
        }
        calls.sort(Comparator.comparing(Method::getName));
        Random random = new Random(7);
        for (int run = 0; run < 60; run++) {
            CloudLaundry x = run % 2 == 0 ? new CloudLaundry() : Texts.told("white 9 9;fog 9 9;stain 0 5 9;washer 3;washer 1;soap 9");
            for (int i = 0; i < 300; i++) {
                Method call = calls.get(random.nextInt(calls.size()));
                Object[] arguments = new Object[call.getParameterCount()];
                for (int a = 0; a < arguments.length; a++) {
                    arguments[a] = WILD[random.nextInt(WILD.length)];
                }
                call.invoke(x, arguments);
            }
        }
        check.holds("nothing was thrown", true);
    }
}
