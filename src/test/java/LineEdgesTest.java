import java.util.List;

/** The document's sentences on LINES and what the machine finds, each at its edges: the sentence is the part's name. */
final class LineEdgesTest {
    private static final int NULL = CloudLaundry.NULL, INDEX = CloudLaundry.INDEX, STORE = CloudLaundry.STORE, CAST = CloudLaundry.CAST,
        EMPTY = CloudLaundry.EMPTY, SIZE = CloudLaundry.SIZE, OUTSIDE = CloudLaundry.OUTSIDE, UNKNOWN = CloudLaundry.UNKNOWN;
    private static final int NOTHING = 777, CLOUD = 700;

    private LineEdgesTest() {
    }

    static void run(Check check) {
        missingAtFirst(check);
        pegs(check);
        aNewOne(check);
        sorts(check);
        notes(check);
        clouds(check);
        nothing(check);
        emptyAheadOfCast(check);
        moveOfAll(check);
        moveOntoItself(check);
        moveBeyondAnEnd(check);
        moveOfWhatCannotBeHeld(check);
        moveOfNone(check);
        nullOfEither(check);
        drop(check);
        sum(check);
        sumOfCloudsNow(check);
    }

    private static CloudLaundry scene() {
        return Texts.told("white 9 9;fog 2 9;bride 9 9;stain 0 0 5;stain 1 1 9;stain 1 5 1;stain 2 5 9;washer 2;washer 1");
    }

    /** A new line with these on its pegs: notes, NOTHING, or CLOUD and its number. */
    private static void hang(CloudLaundry x, int line, int sort, int... things) {
        x.line(line, sort, things.length);
        for (int i = 0; i < things.length; i++) {
            if (things[i] >= CLOUD && things[i] < NOTHING) {
                x.pin(line, i, 0, things[i] - CLOUD);
            } else if (things[i] != NOTHING) {
                x.pin(line, i, 1, things[i]);
            }
        }
    }

    private static void holds(Check check, String what, CloudLaundry x, int line, int... things) {
        for (int i = 0; i < things.length; i++) {
            int kind = x.peg(line, i, 2);
            int thing = kind == EMPTY ? NOTHING : kind == 1 ? CLOUD + x.peg(line, i, 0) : x.peg(line, i, 1) - 5000;
            check.due(what + ", peg " + i, thing, things[i]);
        }
        check.due(what + ", pegs", x.peg(line, things.length, 2), INDEX);
    }

    private static void missingAtFirst(Check check) {
        check.part("LINES 0 .. 2 are missing (at first)");
        CloudLaundry x = scene();
        check.due("lines", x.count(9), 0);
        for (int line = 0; line <= 2; line++) {
            check.due("pin", x.pin(line, 0, 1, 0), NULL);
            check.due("peg", x.peg(line, 0, 2), NULL);
            check.due("move", x.move(line, 0, line, 0, 0), NULL);
            check.due("drop", x.drop(line), NULL);
            check.due("sum", x.sum(line), NULL);
        }
        for (int line = 0; line <= 2; line++) {
            check.due("line", x.line(line, line, line), line);
            check.due("lines", x.count(9), line + 1);
        }
        x.drop(1);
        check.due("lines, the second dropped", x.count(9), 2);
    }

    private static void pegs(Check check) {
        check.part("0 to 16 PEGS; INDEX (a PEG that there is not); SIZE (fewer than none)");
        for (int n = 0; n <= 16; n++) {
            CloudLaundry x = scene();
            check.due("line of " + n, x.line(1, 0, n), n);
            for (int i = -1; i <= 17; i++) {
                boolean there = i >= 0 && i < n;
                check.due("peg " + i + " of " + n, x.peg(1, i, 2), there ? EMPTY : INDEX);
                check.due("pin " + i + " of " + n, x.pin(1, i, 1, i), there ? 1 : INDEX);
            }
            check.due("sum", x.sum(1), 100_000 + n * (n - 1) / 2);
            check.due("drop", x.drop(1), n);
        }
        CloudLaundry x = scene();
        check.due("17", x.line(1, 0, 17), OUTSIDE);
        check.due("-1", x.line(1, 0, -1), SIZE);
        check.due("the least of all", x.line(1, 0, Integer.MIN_VALUE), SIZE);
        check.due("the greatest of all", x.line(1, 0, Integer.MAX_VALUE), OUTSIDE);
        check.due("lines", x.count(9), 0);
        x.line(1, 0, 2);
        check.due("a peg far off", x.peg(1, Integer.MAX_VALUE, 2), INDEX);
        check.due("a peg far below", x.pin(1, Integer.MIN_VALUE, 2, 0), INDEX);
    }

    private static void aNewOne(Check check) {
        check.part("a LINE is a new one of a SORT with n empty PEGS");
        CloudLaundry x = scene();
        hang(x, 0, 0, 1, CLOUD, 3);
        hang(x, 1, 0, 4);
        check.due("line", x.line(0, 2, 4), 4);
        holds(check, "empty", x, 0, NOTHING, NOTHING, NOTHING, NOTHING);
        check.due("of the new sort", x.pin(0, 0, 0, 0), STORE);
        holds(check, "the other stays", x, 1, 4);
        check.due("lines", x.count(9), 2);
        x.drop(0);
        x.line(0, 0, 2);
        holds(check, "dropped and made", x, 0, NOTHING, NOTHING);
        check.due("SIZE leaves it", x.line(0, 1, -1), SIZE);
        check.due("of its sort yet", x.pin(0, 1, 1, 9), 1);
    }

    private static void sorts(Check check) {
        check.part("SORT 0 holds all things, 1 CLOUDS alone, 2 NOTES alone; STORE (what its SORT does not hold)");
        int[][] want = {{1, 1, 1}, {1, STORE, 1}, {STORE, 1, 1}};
        for (int sort = 0; sort <= 2; sort++) {
            for (int what = 0; what <= 2; what++) {
                CloudLaundry x = scene();
                x.line(sort, sort, 1);
                check.due("sort " + sort + ", what " + what, x.pin(sort, 0, what, 1), want[sort][what]);
                int holds = what == 2 || want[sort][what] == STORE ? EMPTY : what + 1;
                check.due("it holds", x.peg(sort, 0, 2), holds);
                check.due("beyond the end", x.pin(sort, 1, what, 1), INDEX);
            }
        }
    }

    private static void notes(Check check) {
        check.part("a NOTE is a number -999 .. 999; as a NOTE (1: it, and 5000 more)");
        CloudLaundry x = scene();
        x.line(0, 2, 1);
        for (int note : new int[] {-999, -998, -1, 0, 1, 998, 999}) {
            check.due("pin", x.pin(0, 0, 1, note), 1);
            check.due("as a note", x.peg(0, 0, 1), 5000 + note);
            check.due("as any thing", x.peg(0, 0, 2), 2);
            check.due("as a cloud", x.peg(0, 0, 0), CAST);
            check.due("sum", x.sum(0), 100_000 + note);
        }
        for (int note : new int[] {-1000, 1000, Integer.MIN_VALUE, Integer.MAX_VALUE}) {
            check.due("pin " + note, x.pin(0, 0, 1, note), OUTSIDE);
            check.due("pin " + note + " on one missing", x.pin(1, 0, 1, note), OUTSIDE);
        }
        check.due("the last stays", x.peg(0, 0, 1), 5999);
    }

    private static void clouds(Check check) {
        check.part("a PEG holds a CLOUD; as a CLOUD (0: its number)");
        CloudLaundry x = scene();
        x.line(0, 1, 1);
        for (int cloud = 0; cloud <= 2; cloud++) {
            check.due("pin", x.pin(0, 0, 0, cloud), 1);
            check.due("as a cloud", x.peg(0, 0, 0), cloud);
            check.due("as any thing", x.peg(0, 0, 2), 1);
            check.due("as a note", x.peg(0, 0, 1), CAST);
        }
        for (int cloud : new int[] {-1, 3, Integer.MIN_VALUE, Integer.MAX_VALUE}) {
            check.due("pin of no cloud", x.pin(0, 0, 0, cloud), UNKNOWN);
            check.due("pin of no cloud on one missing", x.pin(1, 0, 0, cloud), UNKNOWN);
        }
        check.due("the last stays", x.peg(0, 0, 0), 2);
        check.due("a cloud hangs there wherever it is", x.cloud(2, 3), 0);
        x.wash(0, 1);
        x.hour(1);
        check.due("gone", x.cloud(1, 3), 4);
        check.due("one that is gone can be pinned", x.pin(0, 0, 0, 1), 1);
    }

    private static void nothing(Check check) {
        check.part("a PEG holds nothing (at first); nothing (2; v is no matter)");
        for (int sort = 0; sort <= 2; sort++) {
            CloudLaundry x = scene();
            hang(x, 0, sort, sort == 2 ? 5 : CLOUD + 1, NOTHING);
            for (int v : new int[] {0, -1, 5, 1000, Integer.MIN_VALUE, Integer.MAX_VALUE}) {
                check.due("pin nothing on something", x.pin(0, 0, 2, v), 1);
                check.due("pin nothing on nothing", x.pin(0, 1, 2, v), 1);
            }
            holds(check, "sort " + sort, x, 0, NOTHING, NOTHING);
            check.due("sum", x.sum(0), 100_000);
            check.due("pin nothing on one missing", x.pin(1, 0, 2, 0), NULL);
            check.due("pin nothing behind the end", x.pin(0, 2, 2, 0), INDEX);
        }
    }

    private static void emptyAheadOfCast(Check check) {
        check.part("EMPTY ahead of CAST");
        for (int sort = 0; sort <= 2; sort++) {
            CloudLaundry x = scene();
            x.line(0, sort, 1);
            for (int what = 0; what <= 2; what++) {
                check.due("sort " + sort + ", what " + what, x.peg(0, 0, what), EMPTY);
            }
        }
    }

    private static void moveOfAll(Check check) {
        check.part("what n PEGS of a LINE hold from i on comes to another one from j on");
        CloudLaundry x = scene();
        hang(x, 0, 0, 1, CLOUD + 2, NOTHING, -4, 5);
        hang(x, 1, 0, 6, 7, 8, 9, 10, 11);
        check.due("move", x.move(0, 1, 1, 2, 3), 3);
        holds(check, "the other", x, 1, 6, 7, CLOUD + 2, NOTHING, -4, 11);
        holds(check, "this one", x, 0, 1, CLOUD + 2, NOTHING, -4, 5);
        check.due("all 16", full(x), 16);
        check.due("the last of them", x.peg(2, 15, 1), 5015);
    }

    private static int full(CloudLaundry x) {
        hang(x, 0, 2, 0, 1, 2, 3, 4, 5, 6, 7, 8, 9, 10, 11, 12, 13, 14, 15);
        x.line(2, 0, 16);
        return x.move(0, 0, 2, 0, 16);
    }

    private static void moveOntoItself(Check check) {
        check.part("(or itself), as if all was taken ahead");
        int[] row = {1, CLOUD + 1, NOTHING, 4, 5, 6};
        for (int i = 0; i <= 6; i++) {
            for (int j = 0; j <= 6; j++) {
                for (int n = 0; n <= 6 - Math.max(i, j); n++) {
                    CloudLaundry x = scene();
                    hang(x, 1, 0, row);
                    int[] want = row.clone();
                    System.arraycopy(row, i, want, j, n);
                    check.due("move", x.move(1, i, 1, j, n), n);
                    holds(check, "from " + i + " to " + j + ", " + n, x, 1, want);
                }
            }
        }
    }

    private static void moveBeyondAnEnd(Check check) {
        check.part("INDEX (i, j, n below 0, or beyond an end)");
        int[] numbers = {Integer.MIN_VALUE, -1, 0, 1, 2, 3, 4, 5, Integer.MAX_VALUE - 1, Integer.MAX_VALUE};
        CloudLaundry x = null;
        int calls = 0;
        for (int i : numbers) {
            for (int j : numbers) {
                for (int n : numbers) {
                    if (calls % 400 == 0) {
                        x = scene();
                        hang(x, 0, 0, 1, 2, 3, 4);
                        hang(x, 1, 0, 1, 2, 3);
                    }
                    calls++;
                    boolean stands = i >= 0 && j >= 0 && n >= 0 && (long) i + n <= 4 && (long) j + n <= 3;
                    check.due("move(0, " + i + ", 1, " + j + ", " + n + ")", x.move(0, i, 1, j, n), stands ? n : INDEX);
                }
            }
        }
    }

    private static void moveOfWhatCannotBeHeld(Check check) {
        check.part("STORE (what one cannot hold; all that was ahead of it has come)");
        for (int ahead = 0; ahead <= 3; ahead++) {
            CloudLaundry x = scene();
            hang(x, 0, 0, 1, 2, 3, 4, 5);
            x.pin(0, ahead, 0, 2);
            hang(x, 1, 2, 10, 11, 12, 13, 14);
            check.due("a cloud among notes", x.move(0, 0, 1, 1, 4), STORE);
            int[] want = {10, 11, 12, 13, 14};
            for (int i = 0; i < ahead; i++) {
                want[i + 1] = i + 1;
            }
            holds(check, ahead + " ahead of it", x, 1, want);
        }
        CloudLaundry x = scene();
        hang(x, 0, 0, CLOUD, NOTHING, 7, CLOUD + 1);
        hang(x, 1, 1, CLOUD + 2, CLOUD + 2, CLOUD + 2, CLOUD + 2);
        check.due("a note among clouds", x.move(0, 0, 1, 0, 4), STORE);
        holds(check, "nothing comes too", x, 1, CLOUD, NOTHING, CLOUD + 2, CLOUD + 2);
        holds(check, "this one stays", x, 0, CLOUD, NOTHING, 7, CLOUD + 1);
        x.line(2, 2, 2);
        check.due("nothing from clouds to notes", x.move(1, 1, 2, 0, 1), 1);
        check.due("beyond an end ahead of what it cannot hold", x.move(1, 0, 2, 1, 2), INDEX);
    }

    private static void moveOfNone(Check check) {
        check.part("n PEGS (0 of them)");
        CloudLaundry x = scene();
        x.line(0, 1, 0);
        hang(x, 1, 2, 5);
        check.due("from a line of none", x.move(0, 0, 1, 0, 0), 0);
        check.due("from the end to the end", x.move(1, 1, 0, 0, 0), 0);
        check.due("onto itself", x.move(0, 0, 0, 0, 0), 0);
        check.due("behind the end", x.move(1, 2, 0, 0, 0), INDEX);
        check.due("to behind the end", x.move(1, 0, 0, 1, 0), INDEX);
        check.due("one of none", x.move(0, 0, 1, 0, 1), INDEX);
        holds(check, "nothing came", x, 1, 5);
    }

    private static void nullOfEither(Check check) {
        check.part("NULL (either)");
        CloudLaundry x = scene();
        x.line(1, 0, 2);
        check.due("from one missing", x.move(0, 0, 1, 0, 1), NULL);
        check.due("to one missing", x.move(1, 0, 0, 0, 1), NULL);
        check.due("both missing", x.move(0, 0, 2, 0, 1), NULL);
        check.due("ahead of INDEX", x.move(1, 9, 2, -1, -1), NULL);
        check.due("behind UNKNOWN", x.move(0, 0, 3, 0, 1), UNKNOWN);
        check.due("behind UNKNOWN", x.move(-1, 0, 0, 0, 1), UNKNOWN);
    }

    private static void drop(Check check) {
        check.part("a LINE is missing from now on: how many PEGS of it held something");
        for (int held = 0; held <= 16; held++) {
            CloudLaundry x = scene();
            x.line(0, 0, 16);
            for (int i = 0; i < held; i++) {
                x.pin(0, 15 - i, i % 2, i % 3);
            }
            x.pin(0, 0, held == 16 ? 1 : 2, 0);
            check.due("drop of " + held, x.drop(0), held);
            check.due("drop again", x.drop(0), NULL);
            check.due("sum", x.sum(0), NULL);
        }
        CloudLaundry x = scene();
        x.line(2, 1, 0);
        check.due("drop of one without pegs", x.drop(2), 0);
    }

    private static void sum(Check check) {
        check.part("each as often as it hangs there; a NOTE counts as its number, what holds nothing as 0");
        CloudLaundry x = scene();
        x.line(0, 0, 0);
        check.due("without pegs", x.sum(0), 100_000);
        hang(x, 0, 0, CLOUD, CLOUD, CLOUD, NOTHING, CLOUD + 1, -3, NOTHING, 10);
        check.due("as often as it hangs there", x.sum(0), 100_000 + 15 + 10 - 3 + 10);
        hang(x, 1, 0, -999, -999, -999, -999, -999, -999, -999, -999, -999, -999, -999, -999, -999, -999, -999, -999);
        check.due("the least", x.sum(1), 100_000 - 16 * 999);
        hang(x, 1, 2, 699, 699, 699, 699, 699, 699, 699, 699, 699, 699, 699, 699, 699, 699, 699, 699);
        check.due("many", x.sum(1), 100_000 + 16 * 699);
        for (int i = 0; i < 16; i++) {
            x.pin(1, i, 1, 999);
        }
        check.due("the most notes", x.sum(1), 100_000 + 16 * 999);
        check.due("the others are not on it", x.sum(0), 100_032);
    }

    private static void sumOfCloudsNow(Check check) {
        check.part("all STAINS of all CLOUDS on a LINE together, as DEEP as they are now");
        CloudLaundry x = scene();
        hang(x, 0, 1, CLOUD, CLOUD + 1, CLOUD + 2);
        check.due("at first", x.sum(0), 100_000 + 5 + 10 + 9);
        x.wash(1, 1);
        x.wash(0, 0);
        x.hour(1);
        check.due("an hour on, one gone", x.sum(0), 100_000 + 3 + 9 + 9);
        x.undo();
        check.due("undone", x.sum(0), 100_024);
        x.keep(0);
        x.hour(2);
        check.due("two hours on", x.sum(0), 100_000 + 1 + 9 + 9);
        x.back(0);
        check.due("as kept", x.sum(0), 100_024);
        for (int line : List.of(1, 2)) {
            check.due("one missing", x.sum(line), NULL);
        }
    }
}
