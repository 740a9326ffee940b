/** Promises 25 to 28: seen, forget, kinds, lightning. */
final class SeenTest {
    private SeenTest() {
    }

    static void run(Check check) {
        seen(check);
        forget(check);
        kinds(check);
        kindsOfNone(check);
        lightning(check);
    }

    private static void seen(Check check) {
        check.part("promise 25");
        CloudLaundry x = Texts.told("white 20 6");
        check.due("seen(1, 1, 1)", x.seen(1, 1, 1), CloudLaundry.UNKNOWN);
        check.due("seen(-1, 1, 1)", x.seen(-1, 1, 1), CloudLaundry.UNKNOWN);
        check.due("seen(0, 0, 1)", x.seen(0, 0, 1), CloudLaundry.OUTSIDE);
        check.due("seen(0, 4, 1)", x.seen(0, 4, 1), CloudLaundry.OUTSIDE);
        check.due("seen(0, 1, -1)", x.seen(0, 1, -1), CloudLaundry.OUTSIDE);
        check.due("seen(0, 1, 61)", x.seen(0, 1, 61), CloudLaundry.OUTSIDE);
        check.due("seen(1, 4, 61)", x.seen(1, 4, 61), CloudLaundry.UNKNOWN);
        check.due("seen(0, 1, 0)", x.seen(0, 1, 0), 1);
        check.due("seen(0, 3, 60)", x.seen(0, 3, 60), 2);
        for (int i = 3; i <= 6; i++) {
            check.due("seen(0, 1, 0)", x.seen(0, 1, 0), i);
        }
        check.due("a seventh", x.seen(0, 1, 0), CloudLaundry.FULL);
        check.due("a seventh by no hands", x.seen(0, 0, 0), CloudLaundry.OUTSIDE);
        check.due("a seventh of none", x.seen(1, 1, 0), CloudLaundry.UNKNOWN);
        check.due("count(8)", x.count(8), 6);
    }

    private static void forget(Check check) {
        check.part("promise 26");
        CloudLaundry x = Texts.told("white 20 6");
        check.due("forget()", x.forget(), 0);
        x.seen(0, 1, 5);
        x.seen(0, 1, 6);
        check.due("kinds(0)", x.kinds(0), 0);
        check.due("forget()", x.forget(), 2);
        check.due("forget() again", x.forget(), 0);
        check.due("kinds(0)", x.kinds(0), 15);
        check.due("count(8)", x.count(8), 0);
        check.due("seen anew", x.seen(0, 1, 0), 1);
    }

    private static void kinds(Check check) {
        check.part("promise 27");
        CloudLaundry x = Texts.told("bride 20 6;white 9 9;stain 0 0 6;washer 1;washer 1");
        check.due("nothing seen", x.kinds(0), 15);
        check.due("kinds(2)", x.kinds(2), CloudLaundry.UNKNOWN);
        check.due("kinds(-1)", x.kinds(-1), CloudLaundry.UNKNOWN);
        x.seen(0, 1, 6);
        check.due("by 1: all", x.kinds(0), 15);
        x.seen(0, 3, 2);
        check.due("by 3 in 2: white or fog", x.kinds(0), 5);
        check.due("of another", x.kinds(1), 15);
        x.seen(1, 1, 1);
        check.due("of another, not so", x.kinds(1), 0);
        check.due("of this as it was", x.kinds(0), 5);
        x.forget();
        x.seen(0, 2, 6);
        check.due("by 2 in 6: thunder or bride", x.kinds(0), 10);
        x.seen(0, 3, 3);
        check.due("and by 3 in 3: thunder", x.kinds(0), 2);
        x.forget();
        x.seen(0, 3, 6);
        check.due("by 3 in 6: bride", x.kinds(0), 8);
        x.wash(0, 0);
        x.hour(1);
        check.due("as it is now", x.kinds(0), 0);
        x.forget();
        x.seen(0, 3, 5);
        check.due("as it is now", x.kinds(0), 8);
    }

    private static void kindsOfNone(Check check) {
        check.part("promise 27");
        CloudLaundry x = Texts.told("white 7 6;fog 1 6;white 2 9;stain 0 0 5;stain 1 0 5;stain 2 0 5;washer 1");
        x.seen(0, 1, 5);
        check.due("fog would be gone", x.kinds(0), 11);
        x.forget();
        x.seen(0, 1, 60);
        check.due("none as 60", x.kinds(0), 4);
        x.seen(2, 1, 60);
        check.due("all but bride", x.kinds(2), 7);
        x.seen(2, 3, 60);
        check.due("by 3 as well", x.kinds(2), 7);
        x.forget();
        x.wash(0, 1);
        x.hour(1);
        x.seen(1, 1, 4);
        check.due("gone", x.kinds(1), 0);
        x.forget();
        x.seen(1, 1, 60);
        check.due("gone: none as 60", x.kinds(1), 15);
    }

    private static void odds(Check check, int n, int q, int m, int above, int below) {
        CloudLaundry x = new CloudLaundry();
        String row = "lightning(" + n + ", " + q + ", " + m + ", ";
        check.due(row + "0)", x.lightning(n, q, m, 0), above);
        check.due(row + "1)", x.lightning(n, q, m, 1), below);
    }

    private static void lightning(Check check) {
        check.part("promise 28");
        odds(check, 0, 5, 0, 1, 1);
        odds(check, 0, 5, 1, 0, 1);
        odds(check, 1, 3, 1, 7, 10);
        odds(check, 1, 3, 0, 1, 1);
        odds(check, 2, 5, 1, 3, 4);
        odds(check, 3, 5, 2, 1, 2);
        odds(check, 8, 3, 8, 5_764_801, 100_000_000);
        odds(check, 8, 3, 5, 16_117_913, 20_000_000);
        odds(check, 8, 3, 9, 0, 1);
        odds(check, 8, 0, 8, 1, 1);
        odds(check, 8, 10, 1, 0, 1);
        odds(check, 8, 10, 0, 1, 1);
        CloudLaundry x = new CloudLaundry();
        int[][] outside = {{-1, 0, 0, 0}, {9, 0, 0, 0}, {0, -1, 0, 0}, {0, 11, 0, 0}, {0, 0, -1, 0}, {0, 0, 10, 0}, {0, 0, 0, -1}, {0, 0, 0, 2}};
        for (int[] row : outside) {
            check.due("lightning" + java.util.Arrays.toString(row), x.lightning(row[0], row[1], row[2], row[3]), CloudLaundry.OUTSIDE);
        }
    }
}
