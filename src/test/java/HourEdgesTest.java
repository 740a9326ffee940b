/** The document's sentences on CLOUDS, WASHERS, HOURS and what is done, each at its edges: the sentence is the part's name. */
final class HourEdgesTest {
    private static final int NONE = CloudLaundry.NONE, NOT = CloudLaundry.NOT;
    private static final int HEAP = 0, STONE = 1, HUNG = 2, SENT = 3, GONE = 4;
    private static final String[] KINDS = {"white", "thunder", "fog", "bride"};

    private HourEdgesTest() {
    }

    static void run(Check check) {
        asTold(check);
        whereItIs(check);
        waterFirst(check);
        washersByNumbers(check);
        onlyWhoHasOne(check);
        asOftenAsKindSays(check);
        deepestFirst(check);
        goldWithoutSoap(check);
        soapEndsInAnHour(check);
        nothingToRub(check);
        shrinksToNothing(check);
        goneAheadOfTheNext(check);
        hungAnHourMore(check);
        clean(check);
        dry(check);
        kindsOverOneAnother(check);
        late(check);
        soapAtMost(check);
        hoursAtMost(check);
        severalHoursAtOnce(check);
    }

    private static CloudLaundry washed(String text) {
        CloudLaundry x = Texts.told(text);
        x.wash(0, 0);
        return x;
    }

    private static String row(CloudLaundry x, int cloud) {
        StringBuilder row = new StringBuilder();
        for (int stain = 0; stain < 6; stain++) {
            row.append(x.deep(cloud, stain));
        }
        return row.toString();
    }

    private static void stains(Check check, String what, CloudLaundry x, String want) {
        check.due(what, Integer.parseInt(row(x, 0)), Integer.parseInt(want));
    }

    private static void asTold(Check check) {
        check.part("of a KIND, of a SIZE (1 .. 99), DUE at an HOUR (0 .. 99), with STAINS so DEEP (0 .. 9; 0 unless told)");
        for (int kind = 0; kind < 4; kind++) {
            CloudLaundry x = Texts.told(KINDS[kind] + " 1 0;" + KINDS[kind] + " 99 99;stain 0 0 9;stain 1 5 1;washer 1;washer 3;soap 99;eye 99");
            check.due("kind", x.cloud(0, 0) * 10 + x.cloud(1, 0), kind * 11);
            check.due("the least size", x.cloud(0, 1), 1);
            check.due("the greatest size", x.cloud(1, 1), 99);
            check.due("the first hour", x.cloud(0, 2), 0);
            check.due("the last hour", x.cloud(1, 2), 99);
            stains(check, "the first stain", x, "900000");
            check.due("the last stain", x.deep(1, 5), 1);
            check.due("0 unless told", x.deep(1, 0) + x.deep(1, 4), 0);
            check.due("hands", x.washer(0, 0) * 10 + x.washer(1, 0), 13);
            check.due("soap", x.count(2), 99);
            check.due("eye", x.count(12), 99);
        }
    }

    private static void whereItIs(Check check) {
        check.part("in the HEAP (0), on a stone (1), HUNG (2), SENT (3), GONE (4)");
        CloudLaundry x = Texts.told("fog 9 9;fog 2 9;washer 1;washer 1;washer 1");
        check.due("at first", x.cloud(0, 3), HEAP);
        check.due("none has it", x.cloud(0, 4), NONE);
        x.wash(2, 0);
        check.due("on a stone", x.cloud(0, 3), STONE);
        check.due("the last washer has it", x.cloud(0, 4), 2);
        check.due("she has it", x.washer(2, 1), 0);
        check.due("in no set of count()", x.count(4) * 1000 + x.count(5) * 100 + x.count(6) * 10 + x.count(7), 2000);
        x.hang(2);
        check.due("hung", x.cloud(0, 3) * 100 + x.count(5), HUNG * 100 + 1);
        x.again(0);
        check.due("in the heap again", x.cloud(0, 3) * 100 + x.count(4), HEAP * 100 + 3);
        x.wash(0, 0);
        check.due("another has it now", x.cloud(0, 4), 0);
        x.hang(0);
        x.hour(1);
        x.send(0);
        check.due("sent", x.cloud(0, 3) * 100 + x.count(6), SENT * 100 + 1);
        x.wash(1, 1);
        x.hour(1);
        check.due("gone", x.cloud(1, 3) * 100 + x.count(7), GONE * 100 + 2);
        check.due("the heap is empty", x.count(4), 0);
    }

    private static void waterFirst(Check check) {
        check.part("first the water goes on: MILE 6 has half (cut) of what MILE 5 had, MILE 0 has none");
        CloudLaundry x = washed("bride 9 9;stain 0 0 9;stain 0 5 1;washer 1;soap 1");
        for (int hour = 1; hour <= 12; hour++) {
            x.hour(1);
            for (int mile = 0; mile <= 6; mile++) {
                int from = hour - mile;
                check.due("hour " + hour + ", smoke at " + mile, x.water(mile, 0), from >= 1 && from <= 9 ? 64 >> mile : 0);
                check.due("hour " + hour + ", gold at " + mile, x.water(mile, 5), from == 10 ? 64 >> mile : 0);
            }
        }
        x.hour(4);
        check.due("a mile ahead of the last", x.count(13), 1);
        x.hour(1);
        check.due("it is out of the last mile", x.count(13), 0);
        check.due("nothing new at mile 0", x.water(0, 0) + x.water(0, 5), 0);
    }

    private static void washersByNumbers(Check check) {
        check.part("then each WASHER, by numbers");
        CloudLaundry x = Texts.told("bride 9 9;bride 9 9;bride 9 9;stain 0 5 1;stain 1 5 1;stain 2 5 1;washer 1;washer 1;washer 1;soap 2");
        x.wash(2, 0);
        x.wash(0, 1);
        x.wash(1, 2);
        x.hour(1);
        check.due("the lesser washers had the soap", x.deep(0, 5) * 100 + x.deep(1, 5) * 10 + x.deep(2, 5), 100);
        check.due("no soap is left", x.count(2), 0);
        check.due("gold of two", x.water(0, 5), 128);
    }

    private static void onlyWhoHasOne(Check check) {
        check.part("who has a CLOUD RUBS it");
        CloudLaundry x = Texts.told("white 9 9;white 9 9;stain 0 0 5;stain 1 0 5;washer 3");
        x.hour(2);
        check.due("in the heap", x.deep(0, 0) * 100 + x.cloud(0, 1), 509);
        x.wash(0, 0);
        x.hang(0);
        x.hour(2);
        check.due("hung", x.deep(0, 0) * 100 + x.cloud(0, 1), 509);
        check.due("nothing in the water", x.count(13), 0);
        x.again(0);
        x.wash(0, 0);
        x.hour(1);
        check.due("on her stone", x.deep(0, 0) * 100 + x.cloud(0, 1), 208);
        check.due("the other in the heap", x.deep(1, 0) * 100 + x.cloud(1, 1), 509);
    }

    private static void asOftenAsKindSays(Check check) {
        check.part("as often as its KIND says by her HANDS: THUNDER 1 less than WHITE (1 at least), BRIDE once");
        int[][] rubs = {{1, 2, 3}, {1, 1, 2}, {1, 2, 3}, {1, 1, 1}};
        for (int kind = 0; kind < 4; kind++) {
            for (int hands = 1; hands <= 3; hands++) {
                CloudLaundry x = washed(KINDS[kind] + " 99 9;stain 0 1 9;washer " + hands);
                x.hour(1);
                check.due(KINDS[kind] + " by " + hands, 9 - x.deep(0, 1), rubs[kind][hands - 1]);
                check.due("into mile 0", x.water(0, 1), 64 * rubs[kind][hands - 1]);
            }
        }
    }

    private static void deepestFirst(Check check) {
        check.part("one is taken of its deepest STAIN (of several as DEEP the first)");
        CloudLaundry x = washed("white 99 9;stain 0 1 2;stain 0 2 3;stain 0 4 3;washer 3");
        x.hour(1);
        stains(check, "dust and salt, then gossip", x, "012020");
        x.hour(1);
        stains(check, "behind the second hour", x, "001010");
        x.hour(1);
        stains(check, "behind the third", x, "000000");
        CloudLaundry all = washed("bride 9 9;stain 0 0 1;stain 0 1 1;stain 0 2 1;stain 0 3 1;stain 0 4 1;stain 0 5 1;washer 1;soap 1");
        String[] want = {"011111", "001111", "000111", "000011", "000001", "000000"};
        for (String row : want) {
            all.hour(1);
            stains(check, "all as deep", all, row);
        }
        CloudLaundry gold = washed("bride 9 9;stain 0 4 8;stain 0 5 9;washer 1;soap 9");
        gold.hour(1);
        stains(check, "gold, if it is deeper", gold, "000088");
        gold.hour(1);
        stains(check, "the other, if it is as deep", gold, "000078");
    }

    private static void goldWithoutSoap(Check check) {
        check.part("GOLD is none of them without SOAP, with it SOAP is 1 less");
        CloudLaundry x = washed("white 99 9;stain 0 0 1;stain 0 5 9;washer 1");
        x.hour(1);
        stains(check, "the other, though gold is deeper", x, "000009");
        x.hour(1);
        stains(check, "gold stays", x, "000009");
        check.due("soap does not go below 0", x.count(2), 0);
        check.due("it is not clean", x.cloud(0, 6), 0);
        x.soap(1);
        x.hour(1);
        stains(check, "with soap", x, "000008");
        check.due("soap is less", x.count(2), 0);
        CloudLaundry y = washed("white 99 9;stain 0 0 9;washer 3;soap 1");
        y.hour(3);
        check.due("no soap for the others", y.count(2), 1);
    }

    private static void soapEndsInAnHour(Check check) {
        check.part("GOLD is none of them without SOAP (each time)");
        CloudLaundry x = washed("white 99 9;stain 0 2 1;stain 0 5 9;washer 3;soap 1");
        x.hour(1);
        stains(check, "gold once, then the other, then none", x, "000008");
        check.due("gold in the water", x.water(0, 5), 64);
        check.due("the other in the water", x.water(0, 2), 64);
        CloudLaundry y = washed("white 99 9;stain 0 5 9;washer 3;soap 2");
        y.hour(1);
        stains(check, "gold twice, then none", y, "000007");
        check.due("no soap", y.count(2), 0);
        CloudLaundry z = washed("white 99 9;stain 0 5 2;washer 3;soap 9");
        z.hour(1);
        stains(check, "gold is off", z, "000000");
        check.due("soap for what was there alone", z.count(2), 7);
    }

    private static void nothingToRub(Check check) {
        check.part("one is taken of its deepest STAIN (none is DEEP)");
        CloudLaundry x = washed("white 99 9;stain 0 3 1;washer 3;soap 5");
        x.hour(1);
        stains(check, "no stain below 0", x, "000000");
        check.due("one into the water", x.count(13), 64);
        x.hour(1);
        check.due("nothing more", x.count(13), 32);
        check.due("no soap", x.count(2), 5);
        check.due("it shrinks, CLEAN or not", x.cloud(0, 1), 97);
    }

    private static void shrinksToNothing(Check check) {
        check.part("SIZE is less by what its KIND says; if none is left, it is GONE and she has none");
        int[] shrinks = {1, 1, 2, 0};
        for (int kind = 0; kind < 4; kind++) {
            for (int size = 1; size <= 5; size++) {
                CloudLaundry x = washed(KINDS[kind] + " " + size + " 9;stain 0 0 9;washer 1");
                for (int hour = 1; hour <= 6; hour++) {
                    x.hour(1);
                    int left = Math.max(0, size - hour * shrinks[kind]);
                    check.due(KINDS[kind] + " of " + size + " behind " + hour, x.cloud(0, 1), left);
                    check.due("where it is", x.cloud(0, 3), left == 0 ? GONE : STONE);
                    check.due("who has it", x.cloud(0, 4), left == 0 ? NONE : 0);
                    check.due("what she has", x.washer(0, 1), left == 0 ? NONE : 0);
                }
            }
        }
    }

    private static void goneAheadOfTheNext(Check check) {
        check.part("it is GONE and she has none (behind the rubbing)");
        CloudLaundry x = Texts.told("fog 1 9;fog 1 9;white 9 9;stain 0 0 9;stain 0 5 1;washer 3;soap 1");
        x.wash(0, 0);
        x.hour(1);
        check.due("rubbed ahead of it", x.water(0, 0), 192);
        check.due("as deep as it was then", x.deep(0, 0) * 10 + x.deep(0, 5), 61);
        check.due("clean it is not", x.cloud(0, 6), 0);
        check.due("nor hung, nor dry", x.cloud(0, 5) + x.cloud(0, 7), 0);
        x.hour(1);
        check.due("nobody rubs it on", x.deep(0, 0), 6);
        check.due("hang(0)", x.hang(0), NOT);
        check.due("again(0)", x.again(0), NOT);
        check.due("wash(0, 0)", x.wash(0, 0), NOT);
        check.due("her stone is free", x.wash(0, 2), 0);
        x.hang(0);
        check.due("one gone clean is clean", x.wash(0, 1), 0);
        x.hour(1);
        check.due("gone", x.cloud(1, 3) * 10 + x.cloud(1, 6), GONE * 10 + 1);
        check.due("it cannot be sent", x.send(1), NOT);
    }

    private static void hungAnHourMore(Check check) {
        check.part("then each CLOUD that is HUNG has hung an HOUR more");
        CloudLaundry x = Texts.told("white 9 9;fog 9 9;thunder 9 9;washer 1;washer 1");
        x.wash(0, 0);
        x.wash(1, 1);
        x.hang(0);
        check.due("just hung", x.cloud(0, 5), 0);
        x.hour(1);
        x.hang(1);
        x.hour(12);
        check.due("hours", x.cloud(0, 5) * 100 + x.cloud(1, 5), 1312);
        check.due("not in the heap", x.cloud(2, 5), 0);
        check.due("hours that it had hung", x.again(0), 13);
        check.due("it is not hung", x.cloud(0, 5) + x.cloud(0, 7), 0);
        x.hour(1);
        check.due("nor in the heap again", x.cloud(0, 5), 0);
        check.due("hung and in the heap in the same hour", rehung(), 0);
    }

    private static int rehung() {
        CloudLaundry x = washed("white 9 9;washer 1");
        x.hang(0);
        return x.again(0);
    }

    private static void clean(Check check) {
        check.part("CLEAN is a CLOUD of whose STAINS none is DEEP");
        check.due("no stain told", Texts.told("white 9 9").cloud(0, 6), 1);
        for (int stain = 0; stain < 6; stain++) {
            CloudLaundry x = washed("white 9 9;stain 0 " + stain + " 1;washer 1;soap 1");
            check.due("stain " + stain, x.cloud(0, 6), 0);
            x.hour(1);
            check.due("stain " + stain + " rubbed", x.cloud(0, 6), 1);
        }
        CloudLaundry x = washed("white 9 9;stain 0 5 1;washer 3");
        x.hour(3);
        check.due("gold, without soap", x.cloud(0, 6), 0);
    }

    private static void dry(Check check) {
        check.part("DRY is one that is HUNG and has hung as many HOURS as its KIND says, or more");
        int[] dries = {2, 3, 1, 4};
        for (int kind = 0; kind < 4; kind++) {
            CloudLaundry x = washed(KINDS[kind] + " 9 0;stain 0 0 1;washer 1");
            x.hour(1);
            x.hang(0);
            for (int hour = 0; hour < dries[kind]; hour++) {
                check.due(KINDS[kind] + " behind " + hour, x.cloud(0, 7) * 10 + x.send(0), NOT);
                x.hour(1);
            }
            check.due(KINDS[kind] + " is dry", x.cloud(0, 7), 1);
            x.hour(12);
            check.due(KINDS[kind] + " is dry, or more", x.cloud(0, 7), 1);
            check.due("it can be sent", x.send(0), 13 + dries[kind]);
            check.due("sent, it is not hung", x.cloud(0, 7), 0);
        }
        CloudLaundry stained = washed("fog 9 9;stain 0 0 1;washer 1");
        stained.hang(0);
        stained.hour(1);
        check.due("dry, though not clean", stained.cloud(0, 7), 1);
    }

    private static void kindsOverOneAnother(Check check) {
        check.part("CLOUD (0); WHITE (1) under it; THUNDER (2) is WHITE; FOG (3) is WHITE; BRIDE (4) is a CLOUD");
        int[][] want = {{3, 3, NOT, NOT, NOT}, {2, 2, 2, NOT, NOT}, {3, 3, NOT, 3, NOT}, {1, NOT, NOT, NOT, 1}};
        for (int kind = 0; kind < 4; kind++) {
            CloudLaundry x = washed(KINDS[kind] + " 1 9;washer 3");
            for (int as = 0; as <= 4; as++) {
                check.due(KINDS[kind] + " as " + as, x.as(0, as), want[kind][as]);
            }
            x.hour(1);
            check.due("gone or not", x.as(0, 0), want[kind][0]);
        }
    }

    private static void late(Check check) {
        check.part("by how many HOURS it is late (0: it is not)");
        for (int due = 0; due <= 5; due++) {
            CloudLaundry x = washed("white 9 " + due + ";washer 1");
            x.hang(0);
            x.hour(3);
            check.due("due at " + due + ", sent at 3", x.send(0), Math.max(0, 3 - due));
        }
        CloudLaundry x = washed("white 9 99;washer 1");
        x.hang(0);
        for (int i = 0; i < 83; i++) {
            x.hour(12);
        }
        x.hour(3);
        check.due("hours that it hung", x.cloud(0, 5), 999);
        check.due("sent at the last hour", x.send(0), 900);
    }

    private static void soapAtMost(Check check) {
        check.part("n more SOAP (1 .. 20); FULL: there would be more than 99");
        for (int told : new int[] {0, 78, 79, 80, 98, 99}) {
            for (int n : new int[] {1, 2, 19, 20}) {
                CloudLaundry x = Texts.told("soap " + told);
                boolean full = told + n > 99;
                check.due(n + " more than " + told, x.soap(n), full ? CloudLaundry.FULL : told + n);
                check.due("soap", x.count(2), full ? told : told + n);
                check.due("what can be undone", x.count(10), full ? 0 : 1);
            }
        }
    }

    private static void hoursAtMost(Check check) {
        check.part("n HOURS (1 .. 12); FULL: it would be above 999");
        for (int n = 1; n <= 12; n++) {
            check.due("hour(" + n + ") at first", new CloudLaundry().hour(n), n);
            CloudLaundry x = new CloudLaundry();
            for (int i = 0; i < 82; i++) {
                x.hour(12);
            }
            x.hour(4);
            x.hour(12 - n);
            check.due("to 1000", x.hour(n), CloudLaundry.FULL);
            check.due("the hour", x.count(3), 1000 - n);
            check.due("to 999 from " + (999 - n), from(999 - n).hour(n), 999);
        }
    }

    private static CloudLaundry from(int hour) {
        CloudLaundry x = new CloudLaundry();
        for (int left = hour; left > 0; left -= Math.min(12, left)) {
            x.hour(Math.min(12, left));
        }
        return x;
    }

    private static void severalHoursAtOnce(Check check) {
        check.part("n HOURS: as n times one");
        for (int n = 1; n <= 12; n++) {
            CloudLaundry once = working();
            once.hour(n);
            CloudLaundry often = working();
            for (int i = 0; i < n; i++) {
                often.hour(1);
            }
            check.due("what can be undone at once", once.count(10), 4);
            check.due("what can be undone", often.count(10), Math.min(8, 3 + n));
            once.keep(0);
            once.back(0);
            often.keep(0);
            often.back(0);
            check.holds(n + " hours", Sight.of(once).equals(Sight.of(often)));
        }
    }

    private static CloudLaundry working() {
        CloudLaundry x = Texts.told("white 9 9;fog 9 9;bride 9 9;stain 0 0 9;stain 1 5 9;stain 2 3 5;washer 3;washer 1;soap 3");
        x.wash(0, 0);
        x.wash(1, 1);
        x.hang(0);
        return x;
    }
}
