/** Promises 20 to 24: takes, later, stands, plan, needed. */
final class ForetoldTest {
    private ForetoldTest() {
    }

    static void run(Check check) {
        takes(check);
        takesNone(check);
        takesWhereverItIs(check);
        later(check);
        laterRubsOn(check);
        stands(check);
        standsFewest(check);
        plan(check);
        planInAnyOrder(check);
        planFirstWay(check);
        planOfTheHeapAlone(check);
        needed(check);
    }

    private static void takes(Check check) {
        check.part("promise 20");
        String stains = ";stain 0 0 5;stain 0 2 3;stain 0 5 2";
        int[][] want = {{10, 5, 4}, {10, 10, 5}, {10, 5, 4}, {10, 10, 10}};
        String[] kinds = {"white", "thunder", "fog", "bride"};
        for (int kind = 0; kind < 4; kind++) {
            CloudLaundry x = Texts.told(kinds[kind] + " 50 6" + stains);
            for (int hands = 1; hands <= 3; hands++) {
                check.due(kinds[kind] + " by " + hands, x.takes(0, hands), want[kind][hands - 1]);
            }
        }
        CloudLaundry x = Texts.told("white 1 6");
        check.due("clean", x.takes(0, 1), 0);
        check.due("takes(1, 1)", x.takes(1, 1), CloudLaundry.UNKNOWN);
        check.due("takes(-1, 1)", x.takes(-1, 1), CloudLaundry.UNKNOWN);
        check.due("takes(0, 0)", x.takes(0, 0), CloudLaundry.OUTSIDE);
        check.due("takes(0, 4)", x.takes(0, 4), CloudLaundry.OUTSIDE);
        check.due("takes(1, 4)", x.takes(1, 4), CloudLaundry.UNKNOWN);
    }

    private static void takesNone(Check check) {
        check.part("promise 20");
        CloudLaundry x = Texts.told("white 5 6;white 6 6;fog 9 6;fog 10 6;fog 11 6;bride 1 6;stain 0 0 5;stain 1 0 5;"
            + "stain 2 0 5;stain 3 0 5;stain 4 0 5;stain 5 0 9;stain 5 1 9;stain 5 5 9");
        int none = CloudLaundry.NONE;
        int[] want = {none, 5, none, none, 5, 27};
        for (int i = 0; i < want.length; i++) {
            check.due("takes(" + i + ", 1)", x.takes(i, 1), want[i]);
        }
        check.due("takes(0, 2)", x.takes(0, 2), 3);
    }

    private static void takesWhereverItIs(Check check) {
        check.part("promise 20");
        CloudLaundry x = Texts.told("white 20 6;fog 2 6;stain 0 0 5;stain 1 0 5;washer 1;washer 3");
        x.wash(0, 0);
        x.hour(2);
        check.due("on a stone", x.takes(0, 1), 3);
        x.hang(0);
        check.due("hung", x.takes(0, 3), 1);
        x.wash(1, 1);
        x.hour(1);
        check.due("gone", x.takes(1, 3), CloudLaundry.NONE);
        x.again(0);
        x.wash(1, 0);
        x.hour(1);
        check.due("clean, on a stone", x.takes(0, 1), 0);
        x.hang(1);
        x.hour(2);
        x.send(0);
        check.due("sent", x.takes(0, 1), CloudLaundry.NONE);
    }

    private static void later(Check check) {
        check.part("promise 21");
        CloudLaundry x = Texts.told("white 50 6;stain 0 0 1;stain 0 3 2;stain 0 5 1;washer 3;soap 5");
        x.wash(0, 0);
        check.due("now", x.later(0, 0), 0);
        check.due("in an hour", x.later(0, 1), 9);
        check.due("in two", x.later(0, 2), 32);
        check.due("mile 1", x.later(1, 2), 9);
        check.due("mile 1", x.later(1, 3), 32);
        check.due("mile 4, 64 are 4", x.later(4, 5), 8);
        check.due("mile 3, 64 are 8", x.later(3, 4), 9);
        check.due("in 20", x.later(6, 20), 0);
        check.due("nothing changes", x.count(3) + x.count(13) + x.count(10), 1);
        check.due("soap", x.count(2), 5);
        x.hour(1);
        check.due("what is read now", x.later(0, 0), 9);
        check.due("later(7, 0)", x.later(7, 0), CloudLaundry.UNKNOWN);
        check.due("later(-1, 0)", x.later(-1, 0), CloudLaundry.UNKNOWN);
        check.due("later(0, 21)", x.later(0, 21), CloudLaundry.OUTSIDE);
        check.due("later(0, -1)", x.later(0, -1), CloudLaundry.OUTSIDE);
        check.due("later(7, 21)", x.later(7, 21), CloudLaundry.UNKNOWN);
    }

    private static void laterRubsOn(Check check) {
        check.part("promise 21");
        CloudLaundry x = Texts.told("fog 5 6;stain 0 0 9;stain 0 5 9;washer 1;eye 64");
        x.wash(0, 0);
        check.due("in 3, gold is not rubbed without soap", x.later(0, 3), 1);
        check.due("in 4 it is gone", x.later(0, 4), 0);
        CloudLaundry y = Texts.told("white 99 6;stain 0 0 9;washer 1;eye 65");
        y.wash(0, 0);
        check.due("64 are too few for 65", y.later(0, 1), 0);
        CloudLaundry z = Texts.told("white 99 6;stain 0 2 9;washer 1");
        for (int i = 0; i < 83; i++) {
            z.hour(12);
        }
        z.hour(3);
        z.wash(0, 0);
        check.due("behind the last hour", z.later(0, 9), 4);
        check.due("behind the last hour", z.later(0, 10), 0);
    }

    private static void stands(Check check) {
        check.part("promise 22");
        CloudLaundry x = Texts.told("white 50 6;stain 0 0 1;stain 0 3 2;washer 3");
        check.due("none", x.stands(0, 5), 0);
        check.due("nobody rubs", x.stands(1, 20), CloudLaundry.NONE);
        x.wash(0, 0);
        check.due("now", x.stands(9, 0), CloudLaundry.NONE);
        check.due("in one", x.stands(9, 1), 1);
        check.due("both and another", x.stands(13, 20), CloudLaundry.NONE);
        x.hour(3);
        check.due("hour", x.count(3), 3);
        check.due("now at mile 2", x.stands(9, 0), 4);
        check.due("the least of several", x.stands(9, 3), 4);
        x.hour(1);
        check.due("at mile 3", x.stands(1, 20), 8);
        x.hour(1);
        check.due("no more of smoke", x.stands(1, 20), CloudLaundry.NONE);
        check.due("of dye", x.stands(8, 20), 16);
        check.due("stands(64, 0)", x.stands(64, 0), CloudLaundry.UNKNOWN);
        check.due("stands(-1, 0)", x.stands(-1, 0), CloudLaundry.UNKNOWN);
        check.due("stands(63, 0)", x.stands(63, 0), CloudLaundry.NONE);
        check.due("stands(1, 21)", x.stands(1, 21), CloudLaundry.OUTSIDE);
        check.due("stands(1, -1)", x.stands(1, -1), CloudLaundry.OUTSIDE);
        check.due("stands(64, 21)", x.stands(64, 21), CloudLaundry.UNKNOWN);
    }

    private static void standsFewest(Check check) {
        check.part("promise 22");
        CloudLaundry x = Texts.told("bride 50 6;stain 0 0 3;stain 0 1 2;washer 1;eye 32");
        x.wash(0, 0);
        x.hour(3);
        check.due("rubbed", x.deep(0, 0) * 10 + x.deep(0, 1), 11);
        check.due("smoke at 0 and gossip at 1", x.water(0, 1) + x.water(1, 0) + x.water(2, 0), 64 + 32 + 16);
        check.due("now: two miles", x.stands(3, 0), 3);
        check.due("in one: mile 1 alone", x.stands(3, 1), 1);
        CloudLaundry z = Texts.told("white 9 9;bride 9 9;stain 0 0 1;stain 0 1 1;stain 1 0 1;stain 1 1 2;washer 2;eye 16");
        z.wash(0, 0);
        z.hour(1);
        z.hang(0);
        z.wash(0, 1);
        z.hour(2);
        check.due("mile 2 alone ahead of miles 0 and 1", z.stands(3, 0), 4);
        CloudLaundry y = Texts.told("white 50 6;stain 0 0 1;stain 0 1 2;washer 1;eye 16");
        y.wash(0, 0);
        y.hour(2);
        y.hang(0);
        check.due("mile 0 and 1 now", y.stands(3, 0), 3);
        check.due("one mile does for both, mile 1 by then", y.stands(3, 1), 2);
    }

    private static void plan(Check check) {
        check.part("promise 23");
        CloudLaundry none = Texts.told("white 20 6");
        check.due("without washers", none.plan(CloudLaundry.NONE), 0);
        check.due("without washers", none.plan(0), CloudLaundry.NONE);
        CloudLaundry x = Texts.told("white 20 3;white 20 3;white 20 2;stain 0 0 3;stain 1 0 3;stain 2 0 3;washer 1;washer 1");
        check.due("plan(NONE)", x.plan(-1), 2);
        check.due("plan(0)", x.plan(0), 0);
        check.due("plan(1)", x.plan(1), 1);
        check.due("plan(2), not in time", x.plan(2), CloudLaundry.NONE);
        check.due("plan(3)", x.plan(3), CloudLaundry.UNKNOWN);
        check.due("plan(-2)", x.plan(-2), CloudLaundry.UNKNOWN);
        x.hour(1);
        check.due("an hour later", x.plan(-1), 0);
        CloudLaundry y = Texts.told("fog 6 99;fog 7 99;white 9 1;stain 0 0 3;stain 1 0 3;washer 1");
        check.due("one would be gone", y.plan(-1), 2);
        check.due("it is left", y.plan(0), CloudLaundry.NONE);
        check.due("the other is not", y.plan(1), 0);
        check.due("a clean one takes no hour", y.plan(2), 0);
        y.hour(1);
        check.due("just in time", y.plan(2), 0);
        y.hour(1);
        check.due("too late, though it is clean", y.plan(2), CloudLaundry.NONE);
    }

    private static void planInAnyOrder(Check check) {
        check.part("promise 23");
        CloudLaundry x = Texts.told("white 20 9;white 20 5;white 20 2;stain 0 0 4;stain 1 0 3;stain 2 0 2;washer 1");
        check.due("what is due first is washed first", x.plan(-1), 3);
        CloudLaundry y = Texts.told("white 20 8;white 20 5;white 20 2;stain 0 0 4;stain 1 0 3;stain 2 0 2;washer 1");
        check.due("an hour too few", y.plan(-1), 2);
        check.due("the first two", y.plan(0) * 10 + y.plan(1), 0);
        check.due("the third is left", y.plan(2), CloudLaundry.NONE);
    }

    private static void planFirstWay(Check check) {
        check.part("promise 23");
        CloudLaundry x = Texts.told("white 20 9;white 20 3;thunder 20 2;stain 0 0 9;stain 1 0 9;stain 2 0 4;washer 1;washer 3;washer 3");
        check.due("three", x.plan(-1), 3);
        check.due("the lesser washer", x.plan(0), 0);
        check.due("the lesser that has time", x.plan(1), 1);
        check.due("her that is left", x.plan(2), 2);
        CloudLaundry y = Texts.told("white 20 4;white 20 2;white 20 4;stain 0 0 4;stain 1 0 2;stain 2 0 2;washer 1");
        check.due("two of three", y.plan(-1), 2);
        check.due("the greater is left for more", y.plan(0), CloudLaundry.NONE);
        check.due("the second", y.plan(1), 0);
        check.due("the third", y.plan(2), 0);
    }

    private static void planOfTheHeapAlone(Check check) {
        check.part("promise 23");
        CloudLaundry x = Texts.told("white 20 9;white 20 9;white 20 9;stain 0 0 2;stain 2 0 2;washer 1;washer 2");
        x.wash(1, 0);
        check.due("her stone is taken as free", x.plan(-1), 2);
        check.due("on a stone", x.plan(0), CloudLaundry.NONE);
        x.hang(1);
        check.due("hung", x.plan(0), CloudLaundry.NONE);
        check.due("in the heap", x.plan(1), 0);
        check.due("nothing changes", x.count(4) * 100 + x.count(10), 602);
        x.again(0);
        check.due("in the heap again", x.plan(-1), 3);
    }

    private static void needed(Check check) {
        check.part("promise 24");
        CloudLaundry x = Texts.told("white 20 9;fog 20 9;bride 1 1;stain 0 5 9;stain 1 5 2;stain 1 0 9;stain 2 5 5;soap 50;washer 1");
        check.due("needed(0)", x.needed(0), 0);
        check.due("needed(1)", x.needed(1), 9);
        check.due("needed(6)", x.needed(6), 7);
        check.due("needed(7)", x.needed(7), 16);
        check.due("needed(8)", x.needed(8), CloudLaundry.UNKNOWN);
        check.due("needed(-1)", x.needed(-1), CloudLaundry.UNKNOWN);
        x.wash(0, 2);
        x.hour(2);
        check.due("needed(4)", x.needed(4), 3);
    }
}
