import java.lang.reflect.Method;
import java.util.ArrayList;
import java.util.Arrays;
import java.util.Comparator;
import java.util.List;
import java.util.Random;

/** Long runs of calls, drawn with fixed seeds, on the class and on PlainLaundry: each answer must be the same. */
final class ModelTest {
    private static final int RUNS = 400;
    private static final String OFTEN = " wash wash wash hang hang again send send hour hour hour hour soap undo keep back takes takes later later"
        + " stands stands plan plan kinds kinds kinds seen seen pin pin pin peg peg move move sum line line cloud cloud cloud deep deep count";

    private final Random random;
    private final CloudLaundry x = new CloudLaundry();
    private final PlainLaundry plain = new PlainLaundry();
    private final Check check;
    private final int run;
    private final List<String> done = new ArrayList<>();

    private ModelTest(Check check, int run) {
        this.check = check;
        this.run = run;
        random = new Random(1000 + run);
    }

    static void run(Check check) throws Exception {
        check.part("beside the model");
        List<Method> calls = calls();
        for (int run = 0; run < RUNS && check.wrong() < 20; run++) {
            new ModelTest(check, run).go(calls);
        }
    }

    private static List<Method> calls() {
        List<Method> all = new ArrayList<>();
        for (Method method : CloudLaundry.class.getMethods()) {
            if (method.getDeclaringClass() == CloudLaundry.class) {
                int often = OFTEN.split(" " + method.getName() + "(?= |$)", -1).length;
                for (int i = 0; i < often; i++) {
                    all.add(method);
                }
            }
        }
        all.sort(Comparator.comparing(Method::getName));
        return all;
    }

    private void go(List<Method> calls) throws Exception {
        tell(first());
        while (done.size() < 512) {
            if (random.nextInt(150) == 0) {
                tell(clauses(random.nextInt(4)));
            }
            Method method = calls.get(random.nextInt(calls.size()));
            if (!method.getName().equals("summer") || random.nextInt(4) == 0) {
                call(method, arguments(method));
            }
        }
    }

    private void call(Method method, Object... arguments) throws Exception {
        int got = (Integer) method.invoke(x, arguments);
        int want = (Integer) PlainLaundry.class.getMethod(method.getName(), method.getParameterTypes()).invoke(plain, arguments);
        done.add(method.getName() + Arrays.toString(arguments));
        if (got != want) {
            System.out.println("run " + run + ": " + String.join(" ", done));
        }
        check.due("run " + run + ", call " + done.size() + ": " + done.get(done.size() - 1), got, want);
    }

    private void tell(String text) throws Exception {
        Method write = CloudLaundry.class.getMethod("write", int.class);
        call(CloudLaundry.class.getMethod("erase"));
        for (int i = 0; i < text.length(); i++) {
            call(write, (int) text.charAt(i));
        }
        call(CloudLaundry.class.getMethod("fault"));
        call(CloudLaundry.class.getMethod("summer"));
    }

    private Object[] arguments(Method method) {
        Object[] arguments = new Object[method.getParameterCount()];
        for (int a = 0; a < arguments.length; a++) {
            arguments[a] = argument(method.getName(), a);
        }
        return arguments;
    }

    private int argument(String name, int place) {
        if (random.nextInt(40) == 0) {
            return random.nextInt(140) - 20;
        }
        switch (name + place) {
            case "write0": return random.nextBoolean() ? "summer;eye 123 w".charAt(random.nextInt(16)) : random.nextInt(258) - 1;
            case "soap0": return random.nextInt(22);
            case "hour0": return random.nextInt(4) == 0 ? random.nextInt(14) : 1 + random.nextInt(3);
            case "hang0": case "wash0": case "washer0": case "keep0": case "back0": case "line0": case "pin0": case "peg0":
            case "move0": case "move2": case "drop0": case "sum0": return random.nextInt(15) == 0 ? random.nextInt(5) - 1 : random.nextInt(3);
            case "later1": case "stands1": return random.nextInt(3) == 0 ? random.nextInt(23) - 1 : random.nextInt(7);
            case "stands0": return random.nextInt(64) & random.nextInt(64) & (random.nextBoolean() ? 63 : 15);
            case "needed0": return random.nextInt(64) >> random.nextInt(6);
            case "seen2": return seenHours();
            case "lightning0": case "lightning2": return random.nextInt(11) - 1;
            case "lightning1": return random.nextInt(13) - 1;
            case "line2": return random.nextInt(20) - 2;
            case "pin3": return random.nextInt(4) == 0 ? random.nextInt(2200) - 1100 : random.nextInt(6);
            case "move4": case "pin1": case "peg1": case "move1": case "move3": return random.nextInt(10) - 1;
            case "count0": return random.nextInt(16) - 1;
            case "plan0": return random.nextInt(8) - 1;
            default: return random.nextInt(7) - (random.nextInt(6) == 0 ? 1 : 0);
        }
    }

    /** Mostly such as a cloud would take, so that what is seen agrees with some kinds. */
    private int seenHours() {
        if (random.nextInt(4) == 0) {
            return random.nextInt(64) - 1;
        }
        int hours = plain.takes(random.nextInt(6), 1 + random.nextInt(3));
        return hours < 0 ? 60 : hours;
    }

    private String first() {
        StringBuilder text = new StringBuilder("washer " + (1 + random.nextInt(3)));
        int clouds = random.nextInt(7);
        for (int i = 0; i < clouds; i++) {
            text.append(';').append(cloud());
        }
        text.append(clauses(2 + random.nextInt(8)));
        return text.length() <= 200 ? text.toString() : first();
    }

    private String cloud() {
        String kind = new String[] {"white", "thunder", "fog", "bride"}[random.nextInt(4)];
        int size = random.nextInt(3) == 0 ? 1 + random.nextInt(99) : 1 + random.nextInt(12);
        return kind + " " + size + " " + (random.nextInt(3) == 0 ? random.nextInt(100) : random.nextInt(16));
    }

    private String clauses(int n) {
        StringBuilder text = new StringBuilder();
        for (int i = 0; i < n; i++) {
            text.append(';').append(clause());
        }
        if (text.length() > 0 && random.nextInt(12) == 0) {
            text.setCharAt(random.nextInt(text.length()), " ;19az.".charAt(random.nextInt(7)));
        }
        return n > 0 && random.nextBoolean() ? text.substring(1) + text : text.toString();
    }

    private String clause() {
        switch (random.nextInt(20)) {
            case 0: return "soap " + random.nextInt(60);
            case 1: return "eye " + (1 + random.nextInt(40));
            case 2: return "washer " + (1 + random.nextInt(3));
            case 3: return cloud();
            case 4: return random.nextInt(8) == 0 ? "summer" : " eye  " + random.nextInt(101) + " ";
            default: return "stain " + random.nextInt(4) + " " + random.nextInt(6) + " " + random.nextInt(10);
        }
    }
}
