/** Promises 11 to 16: what is done: washed, hung, sent, soap, hours. */
final class DoneTest {
    private DoneTest() {
    }

    static void run(Check check) {
        wash(check);
        hang(check);
        again(check);
        send(check);
        soap(check);
        hour(check);
        hoursOfKinds(check);
        hourRubsDeepestFirst(check);
        hourRubsGoldWithSoapAlone(check);
        hourShrinks(check);
        hourDries(check);
    }

    private static void wash(Check check) {
        check.part("promise 11");
        CloudLaundry x = Texts.told("white 20 6;fog 9 4;stain 0 0 5;stain 0 5 9;stain 0 3 1;washer 3;washer 1");
        check.due("wash(2, 0)", x.wash(2, 0), CloudLaundry.UNKNOWN);
        check.due("wash(0, 2)", x.wash(0, 2), CloudLaundry.UNKNOWN);
        check.due("wash(-1, 0)", x.wash(-1, 0), CloudLaundry.UNKNOWN);
        check.due("wash(0, -1)", x.wash(0, -1), CloudLaundry.UNKNOWN);
        check.due("wash(0, 0)", x.wash(0, 0), 15);
        check.due("wash(0, 1), she has one", x.wash(0, 1), CloudLaundry.NOT);
        check.due("wash(1, 0), it is on a stone", x.wash(1, 0), CloudLaundry.NOT);
        check.due("wash(1, 1)", x.wash(1, 1), 0);
        check.due("the heap", x.count(4), 0);
        x.hang(0);
        check.due("wash(0, 0), it is hung", x.wash(0, 0), CloudLaundry.NOT);
        check.due("what can be undone", x.count(10), 3);
    }

    private static void hang(Check check) {
        check.part("promise 12");
        CloudLaundry x = Texts.told("white 20 6;fog 9 4;stain 1 0 5;washer 3;washer 1");
        check.due("hang(2)", x.hang(2), CloudLaundry.UNKNOWN);
        check.due("hang(-1)", x.hang(-1), CloudLaundry.UNKNOWN);
        check.due("hang(0)", x.hang(0), CloudLaundry.NOT);
        x.wash(0, 1);
        check.due("hang(1)", x.hang(1), CloudLaundry.NOT);
        check.due("hang(0), not clean", x.hang(0), 1);
        check.due("hung", x.count(5), 2);
        check.due("hang(0) again", x.hang(0), CloudLaundry.NOT);
        x.wash(0, 0);
        check.due("hang(0)", x.hang(0), 0);
        check.due("hung", x.count(5), 3);
    }

    private static void again(Check check) {
        check.part("promise 13");
        CloudLaundry x = Texts.told("white 20 6;fog 9 4;washer 3");
        check.due("again(2)", x.again(2), CloudLaundry.UNKNOWN);
        check.due("again(-1)", x.again(-1), CloudLaundry.UNKNOWN);
        check.due("again(0), in the heap", x.again(0), CloudLaundry.NOT);
        x.wash(0, 0);
        check.due("again(0), on a stone", x.again(0), CloudLaundry.NOT);
        x.hang(0);
        x.hour(5);
        check.due("again(0)", x.again(0), 5);
        check.due("in the heap", x.cloud(0, 3), 0);
        check.due("it does not hang", x.cloud(0, 5), 0);
        x.wash(0, 0);
        x.hang(0);
        x.hour(1);
        check.due("its hours begin anew", x.cloud(0, 5), 1);
        check.due("again(0)", x.again(0), 1);
    }

    private static void send(Check check) {
        check.part("promise 14");
        CloudLaundry x = Texts.told("white 20 3;bride 9 1;stain 0 0 2;washer 2;washer 1");
        check.due("send(2)", x.send(2), CloudLaundry.UNKNOWN);
        check.due("send(-1)", x.send(-1), CloudLaundry.UNKNOWN);
        check.due("send(1), clean, in the heap", x.send(1), CloudLaundry.NOT);
        x.wash(0, 0);
        x.wash(1, 1);
        x.hang(1);
        x.hour(1);
        check.due("send(0), clean, not hung", x.send(0), CloudLaundry.NOT);
        x.hang(0);
        x.hour(1);
        check.due("send(0), not dry", x.send(0), CloudLaundry.NOT);
        x.hour(1);
        check.due("send(0), in time", x.send(0), 0);
        check.due("send(0) again", x.send(0), CloudLaundry.NOT);
        check.due("send(1), not dry", x.send(1), CloudLaundry.NOT);
        x.hour(3);
        check.due("send(1), late", x.send(1), 5);
        check.due("sent", x.count(6), 3);
        CloudLaundry y = Texts.told("fog 20 3;stain 0 0 2;washer 2");
        y.wash(0, 0);
        y.hang(0);
        y.hour(9);
        check.due("send(0), dry, not clean", y.send(0), CloudLaundry.NOT);
    }

    private static void soap(Check check) {
        check.part("promise 15");
        CloudLaundry x = Texts.told("soap 60");
        check.due("soap(0)", x.soap(0), CloudLaundry.OUTSIDE);
        check.due("soap(-1)", x.soap(-1), CloudLaundry.OUTSIDE);
        check.due("soap(21)", x.soap(21), CloudLaundry.OUTSIDE);
        check.due("soap(1)", x.soap(1), 61);
        check.due("soap(20)", x.soap(20), 81);
        check.due("soap(19)", x.soap(19), CloudLaundry.FULL);
        check.due("soap(18)", x.soap(18), 99);
        check.due("soap(1)", x.soap(1), CloudLaundry.FULL);
        check.due("soap(21), full", x.soap(21), CloudLaundry.OUTSIDE);
        check.due("count(2)", x.count(2), 99);
    }

    private static void hour(Check check) {
        check.part("promise 16");
        CloudLaundry x = new CloudLaundry();
        check.due("hour(0)", x.hour(0), CloudLaundry.OUTSIDE);
        check.due("hour(-1)", x.hour(-1), CloudLaundry.OUTSIDE);
        check.due("hour(13)", x.hour(13), CloudLaundry.OUTSIDE);
        for (int i = 1; i <= 83; i++) {
            check.due("hour(12)", x.hour(12), 12 * i);
        }
        check.due("hour(4)", x.hour(4), CloudLaundry.FULL);
        check.due("hour(3)", x.hour(3), 999);
        check.due("hour(1)", x.hour(1), CloudLaundry.FULL);
        check.due("hour(13), full", x.hour(13), CloudLaundry.OUTSIDE);
        check.due("count(3)", x.count(3), 999);
    }

    private static void hoursOfKinds(Check check) {
        check.part("an hour");
        String[] kinds = {"white", "thunder", "fog", "bride"};
        int[][] rubs = {{1, 2, 3}, {1, 1, 2}, {1, 2, 3}, {1, 1, 1}};
        int[] shrinks = {1, 1, 2, 0};
        for (int kind = 0; kind < 4; kind++) {
            for (int hands = 1; hands <= 3; hands++) {
                CloudLaundry x = Texts.told(kinds[kind] + " 50 6;stain 0 0 9;washer " + hands);
                x.wash(0, 0);
                x.hour(1);
                check.due(kinds[kind] + " by " + hands, 9 - x.deep(0, 0), rubs[kind][hands - 1]);
                check.due(kinds[kind] + " into the water", x.water(0, 0), 64 * rubs[kind][hands - 1]);
                x.hour(1);
                check.due(kinds[kind] + " shrinks", 50 - x.cloud(0, 1), 2 * shrinks[kind]);
            }
        }
    }

    private static int stainsOf(CloudLaundry x, int cloud) {
        int row = 0;
        for (int stain = 0; stain < 6; stain++) {
            row = 10 * row + x.deep(cloud, stain);
        }
        return row;
    }

    private static void hourRubsDeepestFirst(Check check) {
        check.part("an hour");
        CloudLaundry x = Texts.told("white 50 6;stain 0 0 2;stain 0 1 3;stain 0 3 3;stain 0 4 1;washer 1");
        x.wash(0, 0);
        int[] want = {220_310, 220_210, 120_210, 110_210, 110_110, 10_110, 110, 10, 0, 0};
        for (int i = 0; i < want.length; i++) {
            x.hour(1);
            check.due("behind hour " + (i + 1), stainsOf(x, 0), want[i]);
        }
        check.due("it shrinks though it is clean", x.cloud(0, 1), 50 - want.length);
    }

    private static void hourRubsGoldWithSoapAlone(Check check) {
        check.part("an hour");
        CloudLaundry x = Texts.told("white 50 6;white 50 6;stain 0 5 4;stain 0 0 2;stain 1 5 3;washer 1;washer 2;soap 1");
        x.wash(0, 0);
        x.hour(1);
        check.due("gold first, with soap", stainsOf(x, 0), 200_003);
        check.due("soap is less", x.count(2), 0);
        check.due("gold in the water", x.water(0, 5), 64);
        x.hour(1);
        check.due("without soap the other", stainsOf(x, 0), 100_003);
        x.hour(2);
        check.due("gold stays", stainsOf(x, 0), 3);
        check.due("nothing new in the water", x.water(0, 5), 0);
        check.due("it shrinks all the same", x.cloud(0, 1), 46);
        x.wash(1, 1);
        x.soap(2);
        x.hour(1);
        check.due("soap goes by washers' numbers", stainsOf(x, 0) * 10 + stainsOf(x, 1), 22);
        check.due("no soap is left", x.count(2), 0);
        CloudLaundry y = Texts.told("white 50 6;stain 0 5 4;stain 0 0 4;washer 1;soap 9");
        y.wash(0, 0);
        y.hour(1);
        check.due("as deep: the first", stainsOf(y, 0), 300_004);
        check.due("soap for gold alone", y.count(2), 9);
    }

    private static void hourShrinks(Check check) {
        check.part("an hour");
        CloudLaundry x = Texts.told("fog 3 6;thunder 1 6;bride 1 6;stain 0 0 9;washer 1;washer 1;washer 1");
        x.wash(0, 0);
        x.wash(1, 1);
        x.wash(2, 2);
        x.hour(1);
        check.due("gone", x.count(7), 2);
        check.due("she has none", x.washer(1, 1), CloudLaundry.NONE);
        check.due("she has one", x.washer(0, 1), 0);
        x.hour(1);
        check.due("gone", x.count(7), 3);
        check.due("it was rubbed ahead of that", x.deep(0, 0), 7);
        x.hour(12);
        check.due("a bride's does not shrink", x.cloud(2, 1), 1);
        check.due("her stone", x.washer(2, 1), 2);
        check.due("wash(0, 0)", x.wash(0, 0), CloudLaundry.NOT);
    }

    private static void hourDries(Check check) {
        check.part("an hour");
        int[] dries = {2, 3, 1, 4};
        String[] kinds = {"white", "thunder", "fog", "bride"};
        for (int kind = 0; kind < 4; kind++) {
            CloudLaundry x = Texts.told(kinds[kind] + " 9 9;washer 1");
            x.wash(0, 0);
            x.hang(0);
            for (int hour = 0; hour <= 5; hour++) {
                check.due(kinds[kind] + " behind " + hour, x.cloud(0, 7), hour >= dries[kind] ? 1 : 0);
                x.hour(1);
            }
        }
    }
}
