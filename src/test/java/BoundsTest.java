import java.util.ArrayList;
import java.util.Arrays;
import java.util.List;

/**
 * Each number that a call takes: the least and the greatest that it may be are not refused, the next below, the next
 * above and the farthest are, with the answer that the promise names; of two that are wrong, the first that fits.
 */
final class BoundsTest {
    private static final int UNKNOWN = CloudLaundry.UNKNOWN, OUTSIDE = CloudLaundry.OUTSIDE, INDEX = CloudLaundry.INDEX,
        SIZE = CloudLaundry.SIZE;
    private static final List<Integer> ORDER = List.of(UNKNOWN, OUTSIDE, CloudLaundry.NOT, CloudLaundry.FULL, CloudLaundry.NULL, INDEX,
        CloudLaundry.STORE, CloudLaundry.CAST, CloudLaundry.EMPTY, SIZE);

    private interface Call {
        int on(CloudLaundry x, int[] numbers);
    }

    /** A number of a call: how it is called, its bounds, and what is answered below and above them. */
    private record Number(String name, int low, int high, int below, int above) {
        List<Integer> wrong() {
            return List.of(low - 1, Integer.MIN_VALUE, high + 1, Integer.MAX_VALUE);
        }

        int answer(int value) {
            return value < low ? below : above;
        }
    }

    private final Check check;
    private final String text;
    private final int clouds;
    private final int washers;

    private BoundsTest(Check check, int clouds, int washers) {
        this.check = check;
        this.clouds = clouds;
        this.washers = washers;
        text = "bride 9 9;".repeat(clouds) + "washer 1;".repeat(washers) + "soap 5";
    }

    static void run(Check check) {
        for (int clouds = 1; clouds <= 6; clouds++) {
            BoundsTest test = new BoundsTest(check, clouds, 1 + clouds / 3);
            test.told();
            test.done();
            test.foretold();
            test.seen();
            test.lines();
        }
        ofNone(check);
    }

    private Number cloud() {
        return new Number("cloud", 0, clouds - 1, UNKNOWN, UNKNOWN);
    }

    private Number washer() {
        return new Number("washer", 0, washers - 1, UNKNOWN, UNKNOWN);
    }

    private static Number stain() {
        return new Number("stain", 0, 5, UNKNOWN, UNKNOWN);
    }

    private static Number mile() {
        return new Number("mile", 0, 6, UNKNOWN, UNKNOWN);
    }

    private static Number line() {
        return new Number("line", 0, 2, UNKNOWN, UNKNOWN);
    }

    private static Number number(String name, int low, int high) {
        return new Number(name, low, high, OUTSIDE, OUTSIDE);
    }

    private static Number peg(int pegs) {
        return new Number("peg", 0, pegs - 1, INDEX, INDEX);
    }

    private CloudLaundry scene() {
        CloudLaundry x = Texts.told(text);
        for (int line = 0; line < 3; line++) {
            x.line(line, 0, 4);
            for (int i = 0; i < 4; i++) {
                x.pin(line, i, 1, i);
            }
        }
        x.keep(0);
        x.keep(1);
        return x;
    }

    private void rows(String name, Call call, int[] good, Number... numbers) {
        check.part("bounds of " + name + " with " + clouds + " clouds");
        for (int a = 0; a < numbers.length; a++) {
            for (int value : new int[] {numbers[a].low, numbers[a].high}) {
                int[] row = with(good, a, value);
                int got = call.on(scene(), row);
                check.holds(Arrays.toString(row) + " is not refused for its bounds, but answered " + got,
                    got != numbers[a].below && got != numbers[a].above);
            }
            for (int value : numbers[a].wrong()) {
                refused(call, with(good, a, value), numbers[a].answer(value));
                for (int b = 0; b < a; b++) {
                    two(call, with(good, a, value), numbers[a].answer(value), b, numbers[b]);
                }
            }
        }
    }

    private void two(Call call, int[] row, int answer, int b, Number other) {
        for (int value : other.wrong()) {
            boolean first = ORDER.indexOf(other.answer(value)) < ORDER.indexOf(answer);
            refused(call, with(row, b, value), first ? other.answer(value) : answer);
        }
    }

    private void refused(Call call, int[] row, int want) {
        check.due(Arrays.toString(row), call.on(scene(), row), want);
    }

    private static int[] with(int[] row, int place, int value) {
        int[] copy = row.clone();
        copy[place] = value;
        return copy;
    }

    private static int[] good(int... numbers) {
        return numbers;
    }

    private void told() {
        rows("write", (x, a) -> x.write(a[0]), good(0), number("letter", 0, 255));
        rows("cloud", (x, a) -> x.cloud(a[0], a[1]), good(0, 0), cloud(), number("what", 0, 7));
        rows("deep", (x, a) -> x.deep(a[0], a[1]), good(0, 0), cloud(), stain());
        rows("washer", (x, a) -> x.washer(a[0], a[1]), good(0, 0), washer(), number("what", 0, 1));
        rows("water", (x, a) -> x.water(a[0], a[1]), good(0, 0), mile(), stain());
        rows("as", (x, a) -> x.as(a[0], a[1]), good(0, 0), cloud(), number("kind", 0, 4));
        rows("count", (x, a) -> x.count(a[0]), good(0), number("what", 0, 13));
    }

    private void done() {
        rows("wash", (x, a) -> x.wash(a[0], a[1]), good(0, 0), washer(), cloud());
        rows("hang", (x, a) -> x.hang(a[0]), good(0), washer());
        rows("again", (x, a) -> x.again(a[0]), good(0), cloud());
        rows("send", (x, a) -> x.send(a[0]), good(0), cloud());
        rows("soap", (x, a) -> x.soap(a[0]), good(1), number("n", 1, 20));
        rows("hour", (x, a) -> x.hour(a[0]), good(1), number("n", 1, 12));
        Number kept = new Number("k", 0, 1, UNKNOWN, UNKNOWN);
        rows("keep", (x, a) -> x.keep(a[0]), good(0), kept);
        rows("back", (x, a) -> x.back(a[0]), good(0), kept);
    }

    private void foretold() {
        Number hours = number("n", 0, 20);
        rows("takes", (x, a) -> x.takes(a[0], a[1]), good(0, 1), cloud(), number("hands", 1, 3));
        rows("later", (x, a) -> x.later(a[0], a[1]), good(0, 0), mile(), hours);
        rows("stands", (x, a) -> x.stands(a[0], a[1]), good(0, 0), new Number("stains", 0, 63, UNKNOWN, UNKNOWN), hours);
        // NONE is not a cloud, but asks how many.
        rows("plan", (x, a) -> x.plan(a[0]), good(0), new Number("cloud", -1, clouds - 1, UNKNOWN, UNKNOWN));
        rows("needed", (x, a) -> x.needed(a[0]), good(0), new Number("clouds", 0, (1 << clouds) - 1, UNKNOWN, UNKNOWN));
    }

    private void seen() {
        rows("seen", (x, a) -> x.seen(a[0], a[1], a[2]), good(0, 1, 0), cloud(), number("hands", 1, 3), number("hours", 0, 60));
        rows("kinds", (x, a) -> x.kinds(a[0]), good(0), cloud());
        rows("lightning", (x, a) -> x.lightning(a[0], a[1], a[2], a[3]), good(0, 0, 0, 0),
            number("n", 0, 8), number("q", 0, 10), number("m", 0, 9), number("part", 0, 1));
    }

    private void lines() {
        rows("line", (x, a) -> x.line(a[0], a[1], a[2]), good(0, 0, 4), line(), number("sort", 0, 2), new Number("n", 0, 16, SIZE, OUTSIDE));
        rows("pin, a cloud", (x, a) -> x.pin(a[0], a[1], 0, a[2]), good(0, 0, 0), line(), peg(4), cloud());
        rows("pin, a note", (x, a) -> x.pin(a[0], a[1], 1, a[2]), good(0, 0, 0), line(), peg(4), number("note", -999, 999));
        rows("pin, what", (x, a) -> x.pin(a[0], a[1], a[2], 0), good(0, 0, 0), line(), peg(4), number("what", 0, 2));
        rows("peg", (x, a) -> x.peg(a[0], a[1], a[2]), good(0, 0, 1), line(), peg(4), number("what", 0, 2));
        Number pegs = new Number("n", 0, 4, INDEX, INDEX);
        rows("move", (x, a) -> x.move(a[0], a[1], a[2], a[3], a[4]), good(0, 0, 1, 0, 0), line(), peg(5), line(), peg(5), pegs);
        rows("move, one", (x, a) -> x.move(a[0], a[1], a[2], a[3], 1), good(0, 0, 1, 0), line(), peg(4), line(), peg(4));
        rows("drop", (x, a) -> x.drop(a[0]), good(0), line());
        rows("sum", (x, a) -> x.sum(a[0]), good(0), line());
        for (int v : List.of(Integer.MIN_VALUE, -1000, -1, 99, 1000, Integer.MAX_VALUE)) {
            check.due("pin nothing, v is no matter", scene().pin(0, 0, 2, v), 1);
            check.due("pin, what 3 ahead of v", scene().pin(0, 0, 3, v), OUTSIDE);
            check.due("pin, what -1 ahead of v", scene().pin(0, 0, -1, v), OUTSIDE);
        }
    }

    /** Where no cloud, no washer is, none can be asked for; the empty set is a set of them all the same. */
    private static void ofNone(Check check) {
        check.part("bounds without clouds and washers");
        List<Integer> answers = new ArrayList<>();
        CloudLaundry x = new CloudLaundry();
        for (int number : new int[] {Integer.MIN_VALUE, -1, 0, 1, 5, Integer.MAX_VALUE}) {
            answers.addAll(List.of(x.cloud(number, 0), x.deep(number, 0), x.washer(number, 0), x.as(number, 0), x.wash(number, 0),
                x.hang(number), x.again(number), x.send(number), x.takes(number, 1)));
            answers.addAll(List.of(x.seen(number, 1, 0), x.kinds(number)));
            answers.add(number == -1 ? UNKNOWN : x.plan(number));
            answers.add(number == 0 ? UNKNOWN : x.needed(number));
        }
        for (int i = 0; i < answers.size(); i++) {
            check.due("the answer " + i, answers.get(i), UNKNOWN);
        }
        check.due("plan(NONE)", x.plan(CloudLaundry.NONE), 0);
        check.due("needed(0)", x.needed(0), 0);
    }
}
