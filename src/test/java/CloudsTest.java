/** Promises 6 to 10: what is told of clouds, stains, washers, water and kinds. */
final class CloudsTest {
    private CloudsTest() {
    }

    static void run(Check check) {
        cloud(check);
        cloudOnItsWay(check);
        deep(check);
        washer(check);
        water(check);
        as(check);
    }

    private static void cloud(Check check) {
        check.part("promise 6");
        CloudLaundry x = Texts.told("white 20 6;thunder 30 7;fog 9 0;bride 99 99");
        int[] sizes = {20, 30, 9, 99};
        int[] dues = {6, 7, 0, 99};
        for (int i = 0; i < 4; i++) {
            check.due("kind of " + i, x.cloud(i, 0), i);
            check.due("size of " + i, x.cloud(i, 1), sizes[i]);
            check.due("due of " + i, x.cloud(i, 2), dues[i]);
            check.due("place of " + i, x.cloud(i, 3), 0);
            check.due("washer of " + i, x.cloud(i, 4), CloudLaundry.NONE);
            check.due("hours of " + i, x.cloud(i, 5), 0);
            check.due("clean " + i, x.cloud(i, 6), 1);
            check.due("dry " + i, x.cloud(i, 7), 0);
        }
        check.due("cloud(4, 0)", x.cloud(4, 0), CloudLaundry.UNKNOWN);
        check.due("cloud(-1, 0)", x.cloud(-1, 0), CloudLaundry.UNKNOWN);
        check.due("cloud(0, 8)", x.cloud(0, 8), CloudLaundry.OUTSIDE);
        check.due("cloud(0, -1)", x.cloud(0, -1), CloudLaundry.OUTSIDE);
        check.due("cloud(4, 8)", x.cloud(4, 8), CloudLaundry.UNKNOWN);
    }

    private static void cloudOnItsWay(Check check) {
        check.part("promise 6");
        CloudLaundry x = Texts.told("white 20 6;fog 3 7;stain 0 4 2;stain 1 0 9;washer 1;washer 3");
        check.due("not clean", x.cloud(0, 6), 0);
        x.wash(1, 0);
        x.wash(0, 1);
        check.due("on a stone", x.cloud(0, 3), 1);
        check.due("its washer", x.cloud(0, 4), 1);
        check.due("its washer", x.cloud(1, 4), 0);
        x.hour(1);
        check.due("size", x.cloud(0, 1), 19);
        check.due("clean", x.cloud(0, 6), 1);
        check.due("size", x.cloud(1, 1), 1);
        x.hang(1);
        check.due("hung", x.cloud(0, 3), 2);
        check.due("its washer", x.cloud(0, 4), CloudLaundry.NONE);
        x.hour(1);
        check.due("hours", x.cloud(0, 5), 1);
        check.due("dry", x.cloud(0, 7), 0);
        check.due("gone", x.cloud(1, 3), 4);
        check.due("nothing is left", x.cloud(1, 1), 0);
        check.due("its washer", x.cloud(1, 4), CloudLaundry.NONE);
        check.due("gone, but not clean", x.cloud(1, 6), 0);
        check.due("as deep as it was", x.deep(1, 0), 7);
        x.hour(1);
        check.due("hours", x.cloud(0, 5), 2);
        check.due("dry", x.cloud(0, 7), 1);
        check.due("size", x.cloud(0, 1), 19);
        x.send(0);
        check.due("sent", x.cloud(0, 3), 3);
        check.due("hours", x.cloud(0, 5), 0);
        check.due("dry", x.cloud(0, 7), 0);
        check.due("clean", x.cloud(0, 6), 1);
        x.hour(3);
        check.due("hours of one sent", x.cloud(0, 5), 0);
    }

    private static void deep(Check check) {
        check.part("promise 7");
        CloudLaundry x = Texts.told("white 20 6;fog 9 4;stain 0 0 5;stain 1 5 9;stain 1 4 1;washer 2");
        check.due("deep(0, 0)", x.deep(0, 0), 5);
        check.due("deep(0, 1)", x.deep(0, 1), 0);
        check.due("deep(1, 5)", x.deep(1, 5), 9);
        check.due("deep(1, 4)", x.deep(1, 4), 1);
        check.due("deep(2, 0)", x.deep(2, 0), CloudLaundry.UNKNOWN);
        check.due("deep(-1, 0)", x.deep(-1, 0), CloudLaundry.UNKNOWN);
        check.due("deep(0, 6)", x.deep(0, 6), CloudLaundry.UNKNOWN);
        check.due("deep(0, -1)", x.deep(0, -1), CloudLaundry.UNKNOWN);
        x.wash(0, 0);
        x.hour(1);
        check.due("deep(0, 0)", x.deep(0, 0), 3);
    }

    private static void washer(Check check) {
        check.part("promise 8");
        CloudLaundry x = Texts.told("white 20 6;fog 9 4;washer 3;washer 1");
        check.due("washer(0, 0)", x.washer(0, 0), 3);
        check.due("washer(1, 0)", x.washer(1, 0), 1);
        check.due("washer(0, 1)", x.washer(0, 1), CloudLaundry.NONE);
        check.due("washer(2, 0)", x.washer(2, 0), CloudLaundry.UNKNOWN);
        check.due("washer(-1, 0)", x.washer(-1, 0), CloudLaundry.UNKNOWN);
        check.due("washer(0, 2)", x.washer(0, 2), CloudLaundry.OUTSIDE);
        check.due("washer(0, -1)", x.washer(0, -1), CloudLaundry.OUTSIDE);
        check.due("washer(2, 2)", x.washer(2, 2), CloudLaundry.UNKNOWN);
        x.wash(1, 0);
        check.due("washer(1, 1)", x.washer(1, 1), 0);
        check.due("washer(0, 1)", x.washer(0, 1), CloudLaundry.NONE);
        x.hang(1);
        check.due("washer(1, 1)", x.washer(1, 1), CloudLaundry.NONE);
    }

    private static void water(Check check) {
        check.part("promise 9");
        CloudLaundry x = Texts.told("white 20 6;stain 0 0 2;stain 0 3 1;washer 3");
        check.due("water(0, 0)", x.water(0, 0), 0);
        x.wash(0, 0);
        x.hour(1);
        check.due("water(0, 0)", x.water(0, 0), 128);
        check.due("water(0, 3)", x.water(0, 3), 64);
        x.hour(3);
        check.due("water(0, 0)", x.water(0, 0), 0);
        check.due("water(3, 0)", x.water(3, 0), 16);
        check.due("water(3, 3)", x.water(3, 3), 8);
        x.hour(3);
        check.due("water(6, 0)", x.water(6, 0), 2);
        check.due("water(6, 3)", x.water(6, 3), 1);
        check.due("all of it", x.count(13), 3);
        x.hour(1);
        check.due("beyond the last mile", x.count(13), 0);
        check.due("water(7, 0)", x.water(7, 0), CloudLaundry.UNKNOWN);
        check.due("water(-1, 0)", x.water(-1, 0), CloudLaundry.UNKNOWN);
        check.due("water(0, 6)", x.water(0, 6), CloudLaundry.UNKNOWN);
        check.due("water(0, -1)", x.water(0, -1), CloudLaundry.UNKNOWN);
    }

    private static void as(Check check) {
        check.part("promise 10");
        CloudLaundry x = Texts.told("white 20 6;thunder 30 7;fog 9 0;bride 99 99");
        int not = CloudLaundry.NOT;
        int[][] want = {{3, 3, not, not, not}, {2, 2, 2, not, not}, {3, 3, not, 3, not}, {1, not, not, not, 1}};
        for (int cloud = 0; cloud < 4; cloud++) {
            for (int kind = 0; kind < 5; kind++) {
                check.due("as(" + cloud + ", " + kind + ")", x.as(cloud, kind), want[cloud][kind]);
            }
        }
        check.due("as(0, 5)", x.as(0, 5), CloudLaundry.OUTSIDE);
        check.due("as(0, -1)", x.as(0, -1), CloudLaundry.OUTSIDE);
        check.due("as(4, 5)", x.as(4, 5), CloudLaundry.UNKNOWN);
        check.due("as(-1, 0)", x.as(-1, 0), CloudLaundry.UNKNOWN);
    }
}
