import java.util.List;

/**
 * What is refused changes nothing (but move(), as told), and what only asks changes nothing either: each call is made on
 * a laundry in the midst of its work, and all that can be seen of it must be as of a twin on which it was not made.
 */
final class RefusedTest {
    private static final int NONE = CloudLaundry.NONE, UNKNOWN = CloudLaundry.UNKNOWN, OUTSIDE = CloudLaundry.OUTSIDE, NOT = CloudLaundry.NOT,
        FULL = CloudLaundry.FULL, NULL = CloudLaundry.NULL, INDEX = CloudLaundry.INDEX, STORE = CloudLaundry.STORE,
        CAST = CloudLaundry.CAST, EMPTY = CloudLaundry.EMPTY, SIZE = CloudLaundry.SIZE;

    private interface Scene {
        CloudLaundry make();
    }

    private interface Call {
        int on(CloudLaundry x);
    }

    private final Check check;
    private final Scene scene;
    private final List<Integer> untouched;

    private RefusedTest(Check check, Scene scene) {
        this.check = check;
        this.scene = scene;
        untouched = Sight.of(scene.make());
    }

    static void run(Check check) {
        RefusedTest busy = new RefusedTest(check, RefusedTest::busy);
        busy.told();
        busy.done();
        busy.foretold();
        busy.seen();
        busy.lines();
        busy.asksAlone();
        full(check);
        ofNothing(check);
    }

    /**
     * Cloud 0 is on the stone of washer 0, 1 is hung and stained, 2 is in the heap, 3 is on the stone of washer 1, 4 is
     * gone, 5 is sent; washer 2 has none; line 0 holds all things, 1 clouds, 2 is missing; the text has a fault.
     */
    private static CloudLaundry busy() {
        CloudLaundry x = Texts.told("white 20 6;fog 9 4;thunder 5 9;bride 3 9;white 1 0;fog 9 9;stain 0 0 9;stain 0 5 2;stain 1 1 3;"
            + "washer 2;washer 1;washer 3;soap 3");
        x.wash(1, 5);
        x.hang(1);
        x.wash(1, 4);
        x.hour(1);
        x.keep(0);
        x.send(5);
        x.wash(2, 1);
        x.hang(2);
        x.wash(0, 0);
        x.wash(1, 3);
        x.hour(1);
        x.seen(0, 1, 9);
        x.seen(1, 1, 3);
        x.line(0, 0, 4);
        x.pin(0, 0, 0, 0);
        x.pin(0, 1, 1, 7);
        x.pin(0, 3, 0, 1);
        x.line(1, 1, 2);
        x.pin(1, 1, 0, 1);
        Texts.write(x, "eye 0");
        return x;
    }

    private void same(String name, int want, Call call) {
        CloudLaundry x = scene.make();
        check.due(name, call.on(x), want);
        check.holds(name + " changes nothing", Sight.of(x).equals(untouched));
    }

    private void told() {
        check.part("refused: what is told");
        same("write(-1)", OUTSIDE, x -> x.write(-1));
        same("write(256)", OUTSIDE, x -> x.write(256));
        same("summer() of a fault", NOT, x -> x.summer());
        same("cloud(6, 0)", UNKNOWN, x -> x.cloud(6, 0));
        same("cloud(0, 8)", OUTSIDE, x -> x.cloud(0, 8));
        same("cloud(6, 8)", UNKNOWN, x -> x.cloud(6, 8));
        same("deep(6, 0)", UNKNOWN, x -> x.deep(6, 0));
        same("deep(0, 6)", UNKNOWN, x -> x.deep(0, 6));
        same("washer(3, 0)", UNKNOWN, x -> x.washer(3, 0));
        same("washer(0, 2)", OUTSIDE, x -> x.washer(0, 2));
        same("water(7, 0)", UNKNOWN, x -> x.water(7, 0));
        same("water(0, 6)", UNKNOWN, x -> x.water(0, 6));
        same("as(6, 0)", UNKNOWN, x -> x.as(6, 0));
        same("as(0, 5)", OUTSIDE, x -> x.as(0, 5));
        same("as(0, 2), a white one is no thunder", NOT, x -> x.as(0, 2));
        same("as(3, 1), a bride's is no white one", NOT, x -> x.as(3, 1));
        same("count(14)", OUTSIDE, x -> x.count(14));
    }

    private void done() {
        check.part("refused: what is done");
        same("wash(3, 2)", UNKNOWN, x -> x.wash(3, 2));
        same("wash(2, 6)", UNKNOWN, x -> x.wash(2, 6));
        same("wash(0, 6), she has one", UNKNOWN, x -> x.wash(0, 6));
        same("wash(0, 2), she has one", NOT, x -> x.wash(0, 2));
        same("wash(2, 0), it is on another's stone", NOT, x -> x.wash(2, 0));
        same("wash(0, 0), it is on hers", NOT, x -> x.wash(0, 0));
        same("wash(2, 1), it is hung", NOT, x -> x.wash(2, 1));
        same("wash(2, 4), it is gone", NOT, x -> x.wash(2, 4));
        same("wash(2, 5), it is sent", NOT, x -> x.wash(2, 5));
        same("hang(3)", UNKNOWN, x -> x.hang(3));
        same("hang(2), she has none", NOT, x -> x.hang(2));
        same("again(6)", UNKNOWN, x -> x.again(6));
        same("send(6)", UNKNOWN, x -> x.send(6));
        for (int cloud : new int[] {0, 2, 3, 4, 5}) {
            same("again(" + cloud + "), not hung", NOT, x -> x.again(cloud));
        }
        for (int cloud = 0; cloud < 6; cloud++) {
            int which = cloud;
            same("send(" + cloud + "), not hung, clean and dry", NOT, x -> x.send(which));
        }
        same("soap(0)", OUTSIDE, x -> x.soap(0));
        same("soap(21)", OUTSIDE, x -> x.soap(21));
        same("hour(0)", OUTSIDE, x -> x.hour(0));
        same("hour(13)", OUTSIDE, x -> x.hour(13));
        same("keep(2)", UNKNOWN, x -> x.keep(2));
        same("back(2)", UNKNOWN, x -> x.back(2));
        same("back(1), nothing was kept there", NOT, x -> x.back(1));
    }

    private void foretold() {
        check.part("refused: foretold");
        same("takes(6, 1)", UNKNOWN, x -> x.takes(6, 1));
        same("takes(0, 4)", OUTSIDE, x -> x.takes(0, 4));
        same("later(7, 0)", UNKNOWN, x -> x.later(7, 0));
        same("later(0, 21)", OUTSIDE, x -> x.later(0, 21));
        same("stands(64, 0)", UNKNOWN, x -> x.stands(64, 0));
        same("stands(1, 21)", OUTSIDE, x -> x.stands(1, 21));
        same("plan(6)", UNKNOWN, x -> x.plan(6));
        same("needed(64)", UNKNOWN, x -> x.needed(64));
    }

    private void seen() {
        check.part("refused: what was seen");
        same("seen(6, 1, 0)", UNKNOWN, x -> x.seen(6, 1, 0));
        same("seen(0, 4, 0)", OUTSIDE, x -> x.seen(0, 4, 0));
        same("seen(0, 1, 61)", OUTSIDE, x -> x.seen(0, 1, 61));
        same("kinds(6)", UNKNOWN, x -> x.kinds(6));
        same("lightning(9, 0, 0, 0)", OUTSIDE, x -> x.lightning(9, 0, 0, 0));
    }

    private void lines() {
        check.part("refused: lines");
        same("line(3, 0, 1)", UNKNOWN, x -> x.line(3, 0, 1));
        same("line(0, 3, 1)", OUTSIDE, x -> x.line(0, 3, 1));
        same("line(0, 0, 17)", OUTSIDE, x -> x.line(0, 0, 17));
        same("line(0, 0, -1)", SIZE, x -> x.line(0, 0, -1));
        same("line(2, 0, -1), it is missing yet", SIZE, x -> x.line(2, 0, -1));
        same("line(0, 3, -1), the sort first", OUTSIDE, x -> x.line(0, 3, -1));
        same("pin of no line", UNKNOWN, x -> x.pin(3, 0, 1, 0));
        same("pin of no cloud", UNKNOWN, x -> x.pin(0, 0, 0, 6));
        same("pin of what 3", OUTSIDE, x -> x.pin(0, 0, 3, 0));
        same("pin of a note too great", OUTSIDE, x -> x.pin(0, 0, 1, 1000));
        same("pin on a line that is missing", NULL, x -> x.pin(2, 0, 1, 5));
        same("pin behind the end of it", NULL, x -> x.pin(2, 99, 1, 5));
        same("pin behind the end", INDEX, x -> x.pin(0, 4, 1, 5));
        same("pin behind the end what cannot be held", INDEX, x -> x.pin(1, 2, 1, 5));
        same("pin of a note among clouds", STORE, x -> x.pin(1, 1, 1, 5));
        same("peg of no line", UNKNOWN, x -> x.peg(3, 0, 0));
        same("peg of what 3", OUTSIDE, x -> x.peg(0, 0, 3));
        same("peg of a line that is missing", NULL, x -> x.peg(2, 0, 0));
        same("peg behind the end", INDEX, x -> x.peg(0, 4, 0));
        same("a cloud as a note", CAST, x -> x.peg(0, 0, 1));
        same("a note as a cloud", CAST, x -> x.peg(0, 1, 0));
        same("nothing as a note", EMPTY, x -> x.peg(0, 2, 1));
        same("move to no line", UNKNOWN, x -> x.move(2, 0, 3, 0, 1));
        same("move to one missing", NULL, x -> x.move(0, -1, 2, 0, 1));
        same("move from one missing", NULL, x -> x.move(2, 0, 0, 9, 1));
        same("move beyond the end", INDEX, x -> x.move(0, 0, 1, 1, 2));
        same("move of fewer than none", INDEX, x -> x.move(0, 0, 1, 0, -1));
        same("move of a note among clouds, nothing ahead of it", STORE, x -> x.move(0, 1, 1, 0, 2));
        same("drop of no line", UNKNOWN, x -> x.drop(3));
        same("drop of one missing", NULL, x -> x.drop(2));
        same("sum of no line", UNKNOWN, x -> x.sum(3));
        same("sum of one missing", NULL, x -> x.sum(2));
    }

    private void asksAlone() {
        check.part("what only asks");
        same("fault()", 4, x -> x.fault());
        same("as(2, 1)", 2, x -> x.as(2, 1));
        same("takes(0, 3)", 3, x -> x.takes(0, 3));
        same("later(0, 20)", 0, x -> x.later(0, 20));
        same("later(0, 3)", 1, x -> x.later(0, 3));
        same("stands(33, 20)", 1, x -> x.stands(33, 20));
        same("stands(63, 20)", NONE, x -> x.stands(63, 20));
        same("plan(NONE)", 1, x -> x.plan(NONE));
        same("plan(2)", 0, x -> x.plan(2));
        same("needed(63)", 2, x -> x.needed(63));
        same("kinds(0)", 15, x -> x.kinds(0));
        same("lightning(8, 3, 5, 0)", 16_117_913, x -> x.lightning(8, 3, 5, 0));
        same("peg(0, 1, 1)", 5007, x -> x.peg(0, 1, 1));
        same("sum(0)", 100_000 + 9 + 3 + 7, x -> x.sum(0));
        same("move of none", 0, x -> x.move(0, 4, 1, 2, 0));
    }

    private static CloudLaundry filled() {
        CloudLaundry x = Texts.told("white 20 6;washer 2;soap 95");
        Texts.write(x, "e".repeat(200));
        for (int i = 0; i < 6; i++) {
            x.seen(0, 1, 0);
        }
        x.soap(4);
        return x;
    }

    private static CloudLaundry atTheLastHour() {
        CloudLaundry x = Texts.told("white 20 6;washer 2;soap 95");
        for (int i = 0; i < 83; i++) {
            x.hour(12);
        }
        x.hour(3);
        return x;
    }

    private static void full(Check check) {
        check.part("refused: full");
        RefusedTest filled = new RefusedTest(check, RefusedTest::filled);
        filled.same("write, a letter 201", FULL, x -> x.write('e'));
        filled.same("write, no letter", OUTSIDE, x -> x.write(256));
        filled.same("soap(1)", FULL, x -> x.soap(1));
        filled.same("soap(20)", FULL, x -> x.soap(20));
        filled.same("soap(21)", OUTSIDE, x -> x.soap(21));
        filled.same("seen, a seventh", FULL, x -> x.seen(0, 1, 0));
        filled.same("seen, by no hands", OUTSIDE, x -> x.seen(0, 0, 0));
        filled.same("seen, no cloud", UNKNOWN, x -> x.seen(1, 1, 0));
        RefusedTest late = new RefusedTest(check, RefusedTest::atTheLastHour);
        late.same("hour(1)", FULL, x -> x.hour(1));
        late.same("hour(12)", FULL, x -> x.hour(12));
        late.same("hour(13)", OUTSIDE, x -> x.hour(13));
    }

    private static void ofNothing(Check check) {
        check.part("refused: nothing is there");
        RefusedTest none = new RefusedTest(check, CloudLaundry::new);
        none.same("summer() without a text", NOT, x -> x.summer());
        none.same("undo()", NOT, x -> x.undo());
        none.same("back(0)", NOT, x -> x.back(0));
        none.same("hang(0)", UNKNOWN, x -> x.hang(0));
        none.same("drop(0)", NULL, x -> x.drop(0));
        none.same("erase()", 0, x -> x.erase());
        none.same("forget()", 0, x -> x.forget());
    }
}
