import java.util.ArrayList;
import java.util.List;

/** All that can be seen of a laundry, as a row: two are alike if their rows are. Taking it undoes what can be undone. */
final class Sight {
    /** Pegs that are looked at: one more than the lines of the tests have. */
    private static final int ENDS = 5;

    private Sight() {
    }

    static List<Integer> of(CloudLaundry x) {
        List<Integer> row = new ArrayList<>();
        told(x, row);
        lines(x, row);
        past(x, row);
        return row;
    }

    private static void told(CloudLaundry x, List<Integer> row) {
        for (int what = 0; what <= 13; what++) {
            row.add(x.count(what));
        }
        row.add(x.fault());
        for (int cloud = 0; cloud < x.count(0); cloud++) {
            for (int what = 0; what <= 5; what++) {
                row.add(x.cloud(cloud, what));
            }
            for (int stain = 0; stain < 6; stain++) {
                row.add(x.deep(cloud, stain));
            }
            row.add(x.kinds(cloud));
        }
        for (int washer = 0; washer < 3; washer++) {
            row.add(x.washer(washer, 0));
            row.add(x.washer(washer, 1));
        }
        // How water flows on is the same for all stains; the nearest miles tell what was rubbed.
        for (int stain = 0; stain < 6; stain++) {
            row.add(x.water(0, stain));
            row.add(x.water(2, stain));
        }
    }

    /** What the first pegs hold, and which sort of thing a line refuses. */
    private static void lines(CloudLaundry x, List<Integer> row) {
        for (int line = 0; line < 3; line++) {
            row.add(x.sum(line));
            for (int i = 0; i < ENDS; i++) {
                row.add(x.peg(line, i, 0));
                row.add(x.peg(line, i, 1));
            }
        }
        for (int line = 0; line < 3; line++) {
            row.add(x.pin(line, 0, 0, 0));
            row.add(x.pin(line, 0, 1, 0));
            row.add(x.pin(line, 15, 2, 0));
        }
    }

    private static void past(CloudLaundry x, List<Integer> row) {
        for (int left = x.undo(); left >= 0; left = x.undo()) {
            row.add(x.count(3));
            row.add(x.count(4));
            row.add(x.count(5));
            row.add(x.count(2));
        }
        for (int k = 0; k < 2; k++) {
            row.add(x.back(k));
            row.add(x.count(4));
            row.add(x.count(2));
            row.add(x.count(11));
        }
        row.add(x.erase());
    }
}
