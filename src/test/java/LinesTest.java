/** Promises 29 to 34: lines of pegs. */
final class LinesTest {
    private LinesTest() {
    }

    static void run(Check check) {
        line(check);
        pin(check);
        pinOfSorts(check);
        peg(check);
        move(check);
        moveOntoItself(check);
        moveWhatCannotBeHeld(check);
        moveRefused(check);
        drop(check);
        sum(check);
    }

    private static CloudLaundry withClouds() {
        return Texts.told("white 20 6;fog 9 4;stain 0 0 5;stain 0 5 2;stain 1 1 9;washer 2");
    }

    private static void line(Check check) {
        check.part("promise 29");
        CloudLaundry x = withClouds();
        check.due("line(3, 0, 1)", x.line(3, 0, 1), CloudLaundry.UNKNOWN);
        check.due("line(-1, 3, -1)", x.line(-1, 3, -1), CloudLaundry.UNKNOWN);
        check.due("line(0, 3, 1)", x.line(0, 3, 1), CloudLaundry.OUTSIDE);
        check.due("line(0, -1, -1)", x.line(0, -1, -1), CloudLaundry.OUTSIDE);
        check.due("line(0, 0, 17)", x.line(0, 0, 17), CloudLaundry.OUTSIDE);
        check.due("line(0, 0, -1)", x.line(0, 0, -1), CloudLaundry.SIZE);
        check.due("lines", x.count(9), 0);
        check.due("line(0, 0, 0)", x.line(0, 0, 0), 0);
        check.due("it has no peg", x.pin(0, 0, 2, 0), CloudLaundry.INDEX);
        check.due("line(0, 0, 16)", x.line(0, 0, 16), 16);
        check.due("its last peg", x.pin(0, 15, 1, 7), 1);
        check.due("behind its last", x.pin(0, 16, 1, 7), CloudLaundry.INDEX);
        check.due("what is refused leaves it", x.line(0, 0, -1), CloudLaundry.SIZE);
        check.due("its last peg", x.peg(0, 15, 1), 5007);
        check.due("a new one", x.line(0, 2, 16), 16);
        check.due("is empty", x.peg(0, 15, 2), CloudLaundry.EMPTY);
        check.due("and of another sort", x.pin(0, 0, 0, 0), CloudLaundry.STORE);
        check.due("lines", x.count(9), 1);
    }

    private static void pin(Check check) {
        check.part("promise 30");
        CloudLaundry x = withClouds();
        check.due("missing", x.pin(0, 0, 0, 0), CloudLaundry.NULL);
        x.line(0, 0, 3);
        check.due("pin(3, 0, 3, 0)", x.pin(3, 0, 3, 0), CloudLaundry.UNKNOWN);
        check.due("pin(-1, 0, 0, 0)", x.pin(-1, 0, 0, 0), CloudLaundry.UNKNOWN);
        check.due("no such cloud", x.pin(0, 9, 0, 2), CloudLaundry.UNKNOWN);
        check.due("no such cloud", x.pin(1, 9, 0, -1), CloudLaundry.UNKNOWN);
        check.due("what 3", x.pin(1, 9, 3, 0), CloudLaundry.OUTSIDE);
        check.due("what -1", x.pin(0, 0, -1, 99), CloudLaundry.OUTSIDE);
        check.due("a note of 1000", x.pin(1, 0, 1, 1000), CloudLaundry.OUTSIDE);
        check.due("a note of -1000", x.pin(0, 9, 1, -1000), CloudLaundry.OUTSIDE);
        check.due("peg 3", x.pin(0, 3, 1, 999), CloudLaundry.INDEX);
        check.due("peg -1", x.pin(0, -1, 0, 0), CloudLaundry.INDEX);
        check.due("a cloud", x.pin(0, 0, 0, 1), 1);
        check.due("a note", x.pin(0, 1, 1, -999), 1);
        check.due("nothing, v is no matter", x.pin(0, 2, 2, 123456), 1);
        check.due("it holds the cloud", x.peg(0, 0, 0), 1);
        check.due("it holds the note", x.peg(0, 1, 1), 4001);
        check.due("it holds nothing", x.peg(0, 2, 2), CloudLaundry.EMPTY);
        check.due("nothing in place of a cloud", x.pin(0, 0, 2, -1), 1);
        check.due("it holds nothing", x.peg(0, 0, 2), CloudLaundry.EMPTY);
        check.due("a cloud in place of a note", x.pin(0, 1, 0, 0), 1);
        check.due("it holds the cloud", x.peg(0, 1, 0), 0);
    }

    private static void pinOfSorts(Check check) {
        check.part("promise 30");
        CloudLaundry x = withClouds();
        x.line(1, 1, 2);
        x.line(2, 2, 2);
        check.due("a note among clouds", x.pin(1, 0, 1, 0), CloudLaundry.STORE);
        check.due("a cloud among notes", x.pin(2, 0, 0, 0), CloudLaundry.STORE);
        check.due("beyond the end first", x.pin(2, 2, 0, 0), CloudLaundry.INDEX);
        check.due("a cloud", x.pin(1, 0, 0, 0), 1);
        check.due("a note", x.pin(2, 0, 1, 999), 1);
        check.due("nothing", x.pin(1, 1, 2, 0), 1);
        check.due("nothing", x.pin(2, 1, 2, 0), 1);
        check.due("what is refused changes nothing", x.pin(1, 0, 1, 3), CloudLaundry.STORE);
        check.due("the cloud", x.peg(1, 0, 0), 0);
    }

    private static void peg(Check check) {
        check.part("promise 31");
        CloudLaundry x = withClouds();
        check.due("missing", x.peg(2, 9, 0), CloudLaundry.NULL);
        x.line(2, 0, 3);
        x.pin(2, 0, 0, 1);
        x.pin(2, 1, 1, 999);
        check.due("peg(3, 0, 3)", x.peg(3, 0, 3), CloudLaundry.UNKNOWN);
        check.due("peg(-1, 0, 0)", x.peg(-1, 0, 0), CloudLaundry.UNKNOWN);
        check.due("peg(1, 0, 3)", x.peg(1, 0, 3), CloudLaundry.OUTSIDE);
        check.due("peg(2, 9, -1)", x.peg(2, 9, -1), CloudLaundry.OUTSIDE);
        check.due("peg(2, 3, 0)", x.peg(2, 3, 0), CloudLaundry.INDEX);
        check.due("peg(2, -1, 0)", x.peg(2, -1, 0), CloudLaundry.INDEX);
        int cast = CloudLaundry.CAST;
        int empty = CloudLaundry.EMPTY;
        int[][] want = {{1, cast, 1}, {cast, 5999, 2}, {empty, empty, empty}};
        for (int i = 0; i < 3; i++) {
            for (int what = 0; what < 3; what++) {
                check.due("peg(2, " + i + ", " + what + ")", x.peg(2, i, what), want[i][what]);
            }
        }
    }

    /** A line as a row of digits: notes as they are, 8 where it holds nothing, 9 a cloud. */
    private static int row(CloudLaundry x, int line, int pegs) {
        int row = 0;
        for (int i = 0; i < pegs; i++) {
            int thing = x.peg(line, i, 2);
            row = 10 * row + (thing == CloudLaundry.EMPTY ? 8 : thing == 1 ? 9 : x.peg(line, i, 1) - 5000);
        }
        return row;
    }

    private static void notes(CloudLaundry x, int line, int sort, int... values) {
        x.line(line, sort, values.length);
        for (int i = 0; i < values.length; i++) {
            x.pin(line, i, 1, values[i]);
        }
    }

    private static void move(Check check) {
        check.part("promise 32");
        CloudLaundry x = withClouds();
        notes(x, 0, 0, 1, 2, 3, 4, 5);
        notes(x, 1, 2, 6, 6, 6);
        check.due("move(0, 1, 1, 0, 2)", x.move(0, 1, 1, 0, 2), 2);
        check.due("the other", row(x, 1, 3), 236);
        check.due("this stays", row(x, 0, 5), 12345);
        check.due("to the end", x.move(0, 4, 1, 2, 1), 1);
        check.due("the other", row(x, 1, 3), 235);
        check.due("none, from the end to the end", x.move(0, 5, 1, 3, 0), 0);
        x.pin(0, 0, 2, 0);
        check.due("nothing comes too", x.move(0, 0, 1, 1, 1), 1);
        check.due("the other", row(x, 1, 3), 285);
    }

    private static void moveOntoItself(Check check) {
        check.part("promise 32");
        CloudLaundry x = withClouds();
        notes(x, 0, 2, 1, 2, 3, 4, 5);
        check.due("to behind", x.move(0, 0, 0, 1, 4), 4);
        check.due("as if all was taken ahead", row(x, 0, 5), 11234);
        notes(x, 0, 2, 1, 2, 3, 4, 5);
        check.due("to ahead", x.move(0, 2, 0, 0, 3), 3);
        check.due("as if all was taken ahead", row(x, 0, 5), 34545);
        check.due("where it is", x.move(0, 0, 0, 0, 5), 5);
        check.due("the same", row(x, 0, 5), 34545);
    }

    private static void moveWhatCannotBeHeld(Check check) {
        check.part("promise 32");
        CloudLaundry x = withClouds();
        notes(x, 0, 0, 1, 2, 3, 4);
        x.pin(0, 2, 0, 1);
        notes(x, 1, 2, 6, 6, 6, 6);
        check.due("a cloud among notes", x.move(0, 0, 1, 0, 4), CloudLaundry.STORE);
        check.due("what was ahead of it has come", row(x, 1, 4), 1266);
        x.line(2, 1, 4);
        check.due("a note among clouds", x.move(0, 1, 2, 0, 2), CloudLaundry.STORE);
        check.due("nothing has come", row(x, 2, 4), 8888);
        check.due("a cloud among clouds", x.move(0, 2, 2, 3, 1), 1);
        check.due("the cloud", x.peg(2, 3, 0), 1);
        check.due("clouds to all things", x.move(2, 3, 0, 0, 1), 1);
        check.due("this", row(x, 0, 4), 9294);
    }

    private static void moveRefused(Check check) {
        check.part("promise 32");
        CloudLaundry x = withClouds();
        notes(x, 0, 0, 1, 2, 3);
        notes(x, 1, 1, 6, 6);
        check.due("from 3", x.move(3, 0, 0, 0, 1), CloudLaundry.UNKNOWN);
        check.due("to -1", x.move(2, 0, -1, 0, 1), CloudLaundry.UNKNOWN);
        check.due("from one missing", x.move(2, 9, 0, 0, 1), CloudLaundry.NULL);
        check.due("to one missing", x.move(0, -1, 2, 0, 1), CloudLaundry.NULL);
        int big = Integer.MAX_VALUE;
        int[][] beyond = {{-1, 0, 1}, {0, -1, 1}, {0, 0, -1}, {3, 0, 1}, {4, 0, 0}, {0, 2, 1}, {0, 3, 0}, {2, 0, 2}, {0, 1, 2},
            {big, 0, 1}, {1, 0, big}, {big, big, big}, {0, 0, Integer.MIN_VALUE}};
        for (int[] row : beyond) {
            check.due("move(0, " + row[0] + ", 1, " + row[1] + ", " + row[2] + ")", x.move(0, row[0], 1, row[1], row[2]), CloudLaundry.INDEX);
        }
        check.due("nothing has come", row(x, 1, 2), 88);
        check.due("store behind index", x.move(0, 0, 1, 0, 2), CloudLaundry.STORE);
    }

    private static void drop(Check check) {
        check.part("promise 33");
        CloudLaundry x = withClouds();
        check.due("drop(3)", x.drop(3), CloudLaundry.UNKNOWN);
        check.due("drop(-1)", x.drop(-1), CloudLaundry.UNKNOWN);
        check.due("drop(0)", x.drop(0), CloudLaundry.NULL);
        x.line(0, 0, 4);
        x.pin(0, 0, 0, 1);
        x.pin(0, 1, 0, 0);
        x.pin(0, 3, 1, 0);
        check.due("drop(0)", x.drop(0), 3);
        check.due("drop(0) again", x.drop(0), CloudLaundry.NULL);
        check.due("lines", x.count(9), 0);
        x.line(0, 0, 4);
        check.due("a new one", x.drop(0), 0);
        x.line(0, 0, 16);
        x.pin(0, 15, 1, 1);
        x.line(0, 0, 3);
        check.due("a shorter one", x.drop(0), 0);
    }

    private static void sum(Check check) {
        check.part("promise 34");
        CloudLaundry x = withClouds();
        check.due("sum(3)", x.sum(3), CloudLaundry.UNKNOWN);
        check.due("sum(-1)", x.sum(-1), CloudLaundry.UNKNOWN);
        check.due("sum(1)", x.sum(1), CloudLaundry.NULL);
        x.line(1, 0, 6);
        check.due("empty", x.sum(1), 100_000);
        x.pin(1, 0, 0, 0);
        x.pin(1, 1, 0, 1);
        x.pin(1, 5, 0, 0);
        check.due("each as often as it hangs there", x.sum(1), 100_023);
        x.pin(1, 2, 1, -999);
        check.due("and a note", x.sum(1), 99_024);
        x.wash(0, 0);
        x.hour(1);
        check.due("as deep as they are now", x.sum(1), 99_020);
        x.undo();
        check.due("as deep as they are now", x.sum(1), 99_024);
        notes(x, 0, 2, -999, -999, -999, -999, -999, -999, -999, -999, -999, -999, -999, -999, -999, -999, -999, -999);
        check.due("the least", x.sum(0), 100_000 - 16 * 999);
    }
}
