import java.lang.reflect.Method;
import java.util.ArrayList;
import java.util.Arrays;
import java.util.Comparator;
import java.util.List;
import java.util.Random;
import java.util.Set;

/** Long runs of calls, drawn with fixed seeds, on the class and on PlainLaundry: each answer must be the same. */
final class ModelTest {
    private static final int RUNS = 300;
    private static final String OFTEN = " wash wash wash hang hang again send send hour hour hour undo undo takes takes later later"
        + " stands stands plan plan kinds kinds kinds seen seen pin pin pin pin pin peg peg peg peg move move move sum line line line cloud cloud cloud deep deep count";

    private static final Set<String> SELDOM = Set.of("summer", "line", "drop", "forget", "back");

    private final Random random;
    private final CloudLaundry x = new CloudLaundry();
    private final PlainLaundry plain = new PlainLaundry();
    private final Check check;
    private final int run;
    private final List<String> done = new ArrayList<>();

    private ModelTest(Check check, int run) {
        this.check = check;
        this.run = run;
        random = new Random(1000 + run);
    }

    static void run(Check check) throws Exception {
        check.part("beside the model");
        List<Method> calls = calls();
        for (int run = 0; run < RUNS && check.wrong() < 20; run++) {
            new ModelTest(check, run).go(calls);
        }
    }

    private static List<Method> calls() {
        List<Method> all = new ArrayList<>();
        for (Method method : CloudLaundry.class.getMethods()) {
            if (method.getDeclaringClass() == CloudLaundry.class) {
                int often = OFTEN.split(" " + method.getName() + "(?= |$)", -1).length;
                for (int i = 0; i < often; i++) {
                    all.add(method);
                }
            }
        }
        all.sort(Comparator.comparing(Method::getName));
        return all;
    }

    private void go(List<Method> calls) throws Exception {
        tell(first());
        while (done.size() < 512) {
            if (random.nextInt(200) == 0) {
                tell(clauses(1 + random.nextInt(3)));
            }
            Method method = calls.get(random.nextInt(calls.size()));
            if (!SELDOM.contains(method.getName()) || random.nextInt(5) == 0) {
                call(method, arguments(method));
            }
        }
    }

    private void call(Method method, Object... arguments) throws Exception {
        int got = (Integer) method.invoke(x, arguments);
        int want = (Integer) PlainLaundry.class.getMethod(method.getName(), method.getParameterTypes()).invoke(plain, arguments);
        done.add(method.getName() + Arrays.toString(arguments));
        if (got != want) {
            System.out.println("run " + run + ": " + String.join(" ", done));
        }
        check.due("run " + run + ", call " + done.size() + ": " + done.get(done.size() - 1), got, want);
    }

    private void tell(String text) throws Exception {
        Method write = CloudLaundry.class.getMethod("write", int.class);
        call(CloudLaundry.class.getMethod("erase"));
        for (int i = 0; i < text.length(); i++) {
            call(write, (int) text.charAt(i));
        }
        call(CloudLaundry.class.getMethod("fault"));
        call(CloudLaundry.class.getMethod("summer"));
    }

    private Object[] arguments(Method method) {
        Object[] arguments = new Object[method.getParameterCount()];
        for (int a = 0; a < arguments.length; a++) {
            boolean odd = random.nextInt(40) == 0;
            arguments[a] = odd ? random.nextInt(140) - 20 : argument(method.getName(), a);
        }
        return arguments;
    }

    /** Mostly such as will do: what is refused teaches little. */
    private int argument(String name, int place) {
        switch (name + place) {
            case "write0": return random.nextBoolean() ? "summer;eye 123 w".charAt(random.nextInt(16)) : random.nextInt(258) - 1;
            case "soap0": return random.nextInt(22);
            case "hour0": return random.nextInt(8) == 0 ? random.nextInt(14) : 1;
            case "hang0": case "washer0": return washerWith(true);
            case "wash0": return washerWith(false);
            case "plan0": return random.nextInt(3) == 0 ? PlainLaundry.NONE : around(Math.max(1, plain.count(0)));
            case "wash1": return random.nextInt(4) == 0 ? around(6) : cloudOf(plain.count(4));
            case "again0": return cloudOf(plain.count(5));
            case "send0": return cloudOf(ready());
            case "keep0": case "back0": return around(2);
            case "line0": case "pin0": case "peg0": case "move0": case "move2": case "drop0": case "sum0": return around(3);
            case "later0": case "water0": return around(7);
            case "later1": case "stands1": return random.nextInt(3) == 0 ? around(21) : random.nextInt(5);
            case "stands0": return random.nextBoolean() ? 1 << random.nextInt(6) : random.nextInt(64) & random.nextInt(64);
            case "needed0": return random.nextInt(1 << plain.count(0));
            case "takes1": case "seen1": return 1 + around(3);
            case "seen2": return seenHours();
            case "lightning0": return around(9);
            case "lightning1": return around(11);
            case "lightning2": return around(10);
            case "lightning3": return around(2);
            case "pin2": case "peg2": return around(3);
            case "line1": return random.nextInt(2) == 0 ? 0 : around(3);
            case "line2": return random.nextInt(3) == 0 ? random.nextInt(20) - 2 : 3 + random.nextInt(6);
            case "pin3": return random.nextInt(3) == 0 ? random.nextInt(2200) - 1100 : around(Math.max(1, plain.count(0)));
            case "move4": return around(4);
            case "pin1": case "peg1": case "move1": case "move3": return random.nextInt(3) == 0 ? around(6) : around(3);
            case "count0": return around(14);
            case "as1": return around(5);
            case "cloud1": return around(8);
            case "deep1": case "water1": return around(6);
            case "washer1": return around(2);
            default: return around(Math.max(1, plain.count(0)));
        }
    }

    /** A number from 0 on below n, now and then one just outside. */
    private int around(int n) {
        int odd = random.nextInt(30);
        return odd == 0 ? -1 : odd == 1 ? n : random.nextInt(n);
    }

    private int washerWith(boolean one) {
        int washer = random.nextInt(3);
        for (int i = 0; i < 3 && (one ? plain.washer(washer, 1) < 0 : plain.washer(washer, 1) != PlainLaundry.NONE); i++) {
            washer = (washer + 1) % 3;
        }
        return random.nextInt(5) == 0 ? around(3) : washer;
    }

    private int cloudOf(int bits) {
        int cloud = random.nextInt(6);
        for (int i = 0; i < 6 && (bits >> cloud & 1) == 0; i++) {
            cloud = (cloud + 1) % 6;
        }
        return random.nextInt(6) == 0 ? around(6) : cloud;
    }

    private int ready() {
        int bits = 0;
        for (int i = 0; i < plain.count(0); i++) {
            bits |= plain.cloud(i, 6) == 1 && plain.cloud(i, 7) == 1 ? 1 << i : 0;
        }
        return bits;
    }

    /** Mostly such as a cloud would take, so that what is seen agrees with some kinds. */
    private int seenHours() {
        if (random.nextInt(4) == 0) {
            return random.nextInt(64) - 1;
        }
        int hours = plain.takes(random.nextInt(Math.max(1, plain.count(0))), 1 + random.nextInt(3));
        return hours < 0 ? 60 : hours;
    }

    private String first() {
        int clouds = random.nextInt(20) == 0 ? 0 : 1 + random.nextInt(6);
        StringBuilder text = new StringBuilder();
        for (int i = 0; i < clouds; i++) {
            text.append(cloud()).append(';');
        }
        int washers = random.nextInt(20) == 0 ? 0 : 1 + random.nextInt(3);
        for (int i = 0; i < washers; i++) {
            text.append("washer ").append(1 + random.nextInt(3)).append(';');
        }
        for (int i = random.nextInt(9); i >= 0 && clouds > 0; i--) {
            text.append(stain(clouds)).append(';');
        }
        text.append(random.nextBoolean() ? "soap " + random.nextInt(100) : "eye " + (1 + random.nextInt(99)));
        return text.length() <= 200 ? text.toString() : first();
    }

    private String stain(int clouds) {
        return "stain " + random.nextInt(clouds) + " " + random.nextInt(6) + " " + random.nextInt(10);
    }

    private String cloud() {
        String kind = new String[] {"white", "thunder", "fog", "bride"}[random.nextInt(4)];
        int size = random.nextInt(3) == 0 ? 1 + random.nextInt(12) : 12 + random.nextInt(88);
        return kind + " " + size + " " + (random.nextInt(3) == 0 ? random.nextInt(100) : random.nextInt(16));
    }

    private String clauses(int n) {
        StringBuilder text = new StringBuilder(clause());
        for (int i = 1; i < n; i++) {
            text.append(';').append(clause());
        }
        if (random.nextInt(3) == 0) {
            text.setCharAt(random.nextInt(text.length()), " ;19az.".charAt(random.nextInt(7)));
        }
        return text.toString();
    }

    private String clause() {
        switch (random.nextInt(10)) {
            case 0: return "soap " + random.nextInt(101);
            case 1: return "eye " + random.nextInt(101);
            case 2: return "washer " + random.nextInt(5);
            case 3: return cloud();
            case 4: return random.nextInt(4) == 0 ? "summer" : " eye  " + random.nextInt(40) + " ";
            default: return stain(1 + plain.count(0));
        }
    }
}
