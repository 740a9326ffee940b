/** The document's sentences on what is FORETOLD and SEEN, each at its edges: the sentence is the part's name. */
final class ForetoldEdgesTest {
    private static final int NONE = CloudLaundry.NONE;
    private static final String[] KINDS = {"white", "thunder", "fog", "bride"};
    private static final String ALL_STAINS = ";stain 0 0 9;stain 0 1 9;stain 0 2 9;stain 0 3 9;stain 0 4 9;stain 0 5 9";

    private ForetoldEdgesTest() {
    }

    static void run(Check check) {
        takesTillClean(check);
        takesNotGone(check);
        takesSoapEnough(check);
        takesSentAndGone(check);
        takesTheMost(check);
        eyeNeeds(check);
        laterNow(check);
        laterHoursAlone(check);
        laterTheLastMile(check);
        standsOfNone(check);
        standsNowOrNext(check);
        standsFewestLeast(check);
        standsOfAll(check);
        planDue(check);
        planOneBehindTheOther(check);
        planFirstWay(check);
        planNone(check);
        needed(check);
        seenAtMost(check);
        seenStays(check);
        kindsAllSeen(check);
        kindsNoneAsSixty(check);
        lightningEdges(check);
        lightningLowestTerms(check);
    }

    private static CloudLaundry washed(String text) {
        CloudLaundry x = Texts.told(text);
        x.wash(0, 0);
        return x;
    }

    private static void takesTillClean(Check check) {
        check.part("TAKES: HOURS that it would be on a stone till it is CLEAN, as it is now");
        int[][] rubs = {{1, 2, 3}, {1, 1, 2}, {1, 2, 3}, {1, 1, 1}};
        for (int kind = 0; kind < 4; kind++) {
            for (int deep = 0; deep <= 9; deep++) {
                CloudLaundry x = Texts.told(KINDS[kind] + " 99 9;stain 0 1 " + deep + ";stain 0 4 1");
                for (int hands = 1; hands <= 3; hands++) {
                    int times = rubs[kind][hands - 1];
                    check.due(KINDS[kind] + " by " + hands, x.takes(0, hands), (deep + 1 + times - 1) / times);
                }
            }
            check.due("clean", Texts.told(KINDS[kind] + " 1 0").takes(0, 1), 0);
        }
        CloudLaundry x = washed("white 99 9;stain 0 0 6;washer 2");
        for (int hour = 0; hour <= 4; hour++) {
            check.due("behind " + hour + " hours", x.takes(0, 1), Math.max(0, 6 - 2 * hour));
            x.hour(1);
        }
    }

    private static void takesNotGone(Check check) {
        check.part("none (it is GONE ahead of it; just as it becomes CLEAN it may not be GONE)");
        int[] shrinks = {1, 1, 2, 0};
        for (int kind = 0; kind < 4; kind++) {
            for (int size = 1; size <= 14; size++) {
                CloudLaundry x = Texts.told(KINDS[kind] + " " + size + " 9;stain 0 0 6");
                check.due(KINDS[kind] + " of " + size, x.takes(0, 1), size > 6 * shrinks[kind] ? 6 : NONE);
            }
        }
        CloudLaundry x = washed("white 6 9;stain 0 0 6;washer 2");
        check.due("by one it would be gone", x.takes(0, 1), NONE);
        check.due("by two it would not", x.takes(0, 2), 3);
        x.hour(1);
        check.due("by one, an hour on", x.takes(0, 1), 4);
    }

    private static void takesSoapEnough(Check check) {
        check.part("as if there was SOAP enough");
        CloudLaundry x = Texts.told("white 99 9;stain 0 5 9;stain 0 0 3;washer 3");
        check.due("without soap", x.takes(0, 3), 4);
        x.soap(1);
        check.due("with little", x.takes(0, 3), 4);
        check.due("soap stays", x.count(2), 1);
    }

    private static void takesSentAndGone(Check check) {
        check.part("none (SENT, GONE now)");
        CloudLaundry x = Texts.told("fog 9 9;fog 1 9;bride 9 9;washer 1;washer 1;washer 1");
        x.wash(0, 0);
        x.wash(1, 1);
        x.wash(2, 2);
        check.due("on a stone", x.takes(0, 1), 0);
        x.hang(0);
        check.due("hung", x.takes(0, 1), 0);
        x.hour(1);
        check.due("gone, though it was clean", x.takes(1, 1), NONE);
        x.send(0);
        check.due("sent", x.takes(0, 1), NONE);
        x.undo();
        check.due("not sent after all", x.takes(0, 1), 0);
        x.undo();
        check.due("not gone after all", x.takes(1, 1), 0);
        check.due("hands ahead of none", x.takes(1, 4), CloudLaundry.OUTSIDE);
    }

    private static void takesTheMost(Check check) {
        check.part("none (more than 60): there are 54 to rub at most");
        CloudLaundry x = Texts.told("bride 1 9" + ALL_STAINS);
        check.due("a bride's", x.takes(0, 1), 54);
        check.due("a bride's by three", x.takes(0, 3), 54);
        check.due("a white one", Texts.told("white 55 9" + ALL_STAINS).takes(0, 1), 54);
        check.due("a white one too small", Texts.told("white 54 9" + ALL_STAINS).takes(0, 1), NONE);
        check.due("fog", Texts.told("fog 99 9" + ALL_STAINS).takes(0, 1), NONE);
        check.due("fog by two", Texts.told("fog 55 9" + ALL_STAINS).takes(0, 2), 27);
        check.due("fog by two too small", Texts.told("fog 54 9" + ALL_STAINS).takes(0, 2), NONE);
    }

    private static void eyeNeeds(Check check) {
        check.part("an EYE needs 1 to 99 of a STAIN to read it (8 at first)");
        for (int eye : new int[] {0, 1, 2, 3, 4, 5, 8, 9, 16, 17, 32, 33, 64, 65, 99}) {
            CloudLaundry x = washed("bride 9 9;stain 0 2 1;washer 1" + (eye == 0 ? "" : ";eye " + eye));
            x.hour(1);
            for (int mile = 0; mile <= 6; mile++) {
                boolean isRead = 64 >> mile >= (eye == 0 ? 8 : eye);
                check.due("eye " + eye + " at " + mile, x.later(mile, mile), isRead ? 4 : 0);
            }
        }
        CloudLaundry more = washed("white 9 9;stain 0 2 2;washer 2;eye 99");
        check.due("128 for 99", more.later(0, 1), 4);
        check.due("64 for 99", more.later(1, 2), 0);
    }

    private static void laterNow(Check check) {
        check.part("LATER: in n HOURS (0 .. 20) at a MILE (STAINS, by bits)");
        CloudLaundry x = washed("white 99 9" + ALL_STAINS + ";washer 3;soap 99");
        check.due("now nothing", x.later(0, 0), 0);
        check.due("the first three", x.later(0, 1), 7);
        check.due("the others", x.later(0, 2), 56);
        check.due("the last hour told", x.later(0, 20), 0);
        check.due("the last rubs", x.later(0, 18), 56);
        check.due("and behind them nothing", x.later(0, 19), 0);
        check.due("the water of then at mile 3", x.later(3, 20), 0b000111);
        check.due("beyond mile 3, 4 are too few", x.later(4, 20), 0);
        x.hour(1);
        check.due("now the first three", x.later(0, 0), 7);
    }

    private static void laterHoursAlone(Check check) {
        check.part("LATER: nothing else being done but HOURS");
        CloudLaundry x = Texts.told("white 3 9;white 9 9;fog 9 9;stain 0 0 9;stain 1 1 9;stain 2 2 9;stain 2 5 9;washer 1;washer 1;soap 1");
        check.due("nobody takes a cloud", x.later(0, 5), 0);
        x.wash(0, 0);
        check.due("rubbed on", x.later(0, 3), 1);
        check.due("gone by then", x.later(0, 4), 0);
        check.due("what it left goes on", x.later(1, 4), 1);
        x.wash(1, 2);
        check.due("soap is used up", x.later(0, 2), 1 | 32);
        check.due("gold no more", x.later(0, 3), 1 | 4);
        check.due("the hour stays", x.count(3), 0);
        check.due("the soap stays", x.count(2), 1);
        check.due("the water stays", x.count(13), 0);
        check.due("the cloud stays", x.cloud(0, 1) * 10 + x.deep(0, 0), 39);
    }

    private static void laterTheLastMile(Check check) {
        check.part("the river has MILES 0 .. 6");
        CloudLaundry x = washed("bride 9 9;stain 0 0 1;washer 1;eye 1");
        check.due("at the last mile", x.later(6, 7), 1);
        check.due("ahead of it", x.later(6, 6), 0);
        check.due("behind it", x.later(6, 8), 0);
        check.due("stands", x.stands(1, 20), 1);
        x.hour(7);
        check.due("at the last mile now", x.stands(1, 0), 64);
        check.due("or in the next hours", x.stands(1, 20), 64);
        x.hour(1);
        check.due("no more", x.stands(1, 20), NONE);
    }

    private static void standsOfNone(Check check) {
        check.part("STANDS for a set of STAINS (bits): none of them");
        check.due("a new object", new CloudLaundry().stands(0, 0), 0);
        check.due("in 20", new CloudLaundry().stands(0, 20), 0);
        CloudLaundry x = washed("bride 9 9;stain 0 0 9;washer 1");
        x.hour(3);
        check.due("though some are read", x.stands(0, 20), 0);
        for (int stain = 1; stain < 6; stain++) {
            check.due("what is never read", x.stands(1 << stain, 20), NONE);
            check.due("beside what is read", x.stands(1 | 1 << stain, 20), NONE);
        }
    }

    private static void standsNowOrNext(Check check) {
        check.part("read at one of them at least, now or in one of the next n HOURS");
        CloudLaundry x = washed("bride 9 9;stain 0 1 1;stain 0 3 1;washer 1;eye 64");
        check.due("now", x.stands(2, 0), NONE);
        check.due("in one", x.stands(2, 1), 1);
        check.due("the other in one", x.stands(8, 1), NONE);
        check.due("the other in two", x.stands(8, 2), 1);
        check.due("both in one", x.stands(10, 1), NONE);
        check.due("both in two", x.stands(10, 2), 1);
        x.hour(1);
        check.due("the first now", x.stands(2, 0), 1);
        check.due("both, one now, one in one", x.stands(10, 1), 1);
        x.hour(1);
        check.due("the first is past", x.stands(2, 20), NONE);
        check.due("the second now", x.stands(8, 0), 1);
    }

    private static void standsFewestLeast(Check check) {
        check.part("the fewest, of as few the least");
        CloudLaundry x = washed("bride 9 9;stain 0 0 1;stain 0 1 1;stain 0 2 1;washer 1;eye 1");
        x.hour(3);
        check.due("three miles for three", x.stands(7, 0), 7);
        check.due("two for two", x.stands(3, 0), 6);
        check.due("the outer two", x.stands(5, 0), 5);
        check.due("mile 1 for two in an hour", x.stands(6, 1), 2);
        check.due("mile 2 for all in two", x.stands(7, 2), 4);
        check.due("the least of many", x.stands(4, 20), 1);
        check.due("the least for the first", x.stands(1, 20), 4);
        check.due("two in an hour: miles 0 and 2 ahead of 1 and 2", x.stands(7, 1), 5);
        CloudLaundry y = Texts.told("bride 9 9;stain 0 0 1;stain 0 1 1;stain 0 2 9;washer 1;eye 4");
        y.wash(0, 0);
        y.hour(8);
        check.due("dust from mile 0 to 4", y.stands(4, 0), 1);
        y.hour(2);
        check.due("all at different miles, dust at three", y.stands(7, 0), 7);
        check.due("dust at the least of them", y.stands(4, 0), 4);
    }

    private static void standsOfAll(Check check) {
        check.part("STANDS for a set of STAINS (bits): all of them");
        CloudLaundry x = washed("bride 9 9;stain 0 0 1;stain 0 1 1;stain 0 2 1;stain 0 3 1;stain 0 4 1;stain 0 5 1;washer 1;eye 1;soap 1");
        check.due("now", x.stands(63, 0), NONE);
        check.due("in five", x.stands(63, 5), NONE);
        check.due("in six, at mile 0", x.stands(63, 6), 1);
        x.hour(6);
        check.due("now: six miles", x.stands(63, 0), 63);
        x.hour(1);
        check.due("now: the six behind them", x.stands(63, 0), 126);
        check.due("in five, at mile 6", x.stands(63, 5), 64);
        x.hour(1);
        check.due("one is gone from the river", x.stands(63, 20), NONE);
        check.due("the others", x.stands(62, 0), 124);
    }

    private static void planDue(Check check) {
        check.part("each that is washed must be CLEAN at the HOUR it is DUE, or ahead of it");
        for (int due = 0; due <= 6; due++) {
            CloudLaundry x = Texts.told("white 9 " + due + ";stain 0 0 4;washer 1;washer 2");
            for (int hour = 0; hour <= 6; hour++) {
                int want = hour + 4 <= due ? 0 : hour + 2 <= due ? 1 : NONE;
                check.due("due at " + due + ", at hour " + hour, x.plan(0), want);
                check.due("how many", x.plan(NONE), want == NONE ? 0 : 1);
                x.hour(1);
            }
        }
        CloudLaundry clean = Texts.told("white 9 1;washer 1");
        check.due("a clean one", clean.plan(0), 0);
        clean.hour(1);
        check.due("at its hour", clean.plan(0), 0);
        clean.hour(1);
        check.due("behind its hour", clean.plan(0), NONE);
    }

    private static void planOneBehindTheOther(Check check) {
        check.part("each WASHER washes hers one behind the other");
        CloudLaundry x = Texts.told("white 9 2;white 9 4;white 9 6;stain 0 0 2;stain 1 0 2;stain 2 0 2;washer 1");
        check.due("just in time", x.plan(NONE), 3);
        x.hour(1);
        check.due("an hour late", x.plan(NONE), 2);
        check.due("the first is left", x.plan(0), NONE);
        CloudLaundry y = Texts.told("white 9 6;white 9 5;white 9 4;white 9 3;white 9 2;white 9 1;stain 0 0 1;stain 1 0 1;stain 2 0 1;"
            + "stain 3 0 1;stain 4 0 1;stain 5 0 1;washer 1");
        check.due("six, the last due first", y.plan(NONE), 6);
        y.hour(1);
        check.due("five", y.plan(NONE), 5);
        check.due("the sixth is too late", y.plan(5), NONE);
        CloudLaundry z = Texts.told("white 9 3;white 9 1;white 9 5;white 9 2;white 9 6;white 9 4;stain 0 0 1;stain 1 0 1;stain 2 0 1;"
            + "stain 3 0 1;stain 4 0 1;stain 5 0 1;washer 1");
        check.due("six, due in another order", z.plan(NONE), 6);
        CloudLaundry shrink = Texts.told("white 3 99;white 3 99;stain 0 0 2;stain 1 0 2;washer 1");
        check.due("waiting does not shrink (each by itself)", shrink.plan(NONE), 2);
    }

    private static void planFirstWay(Check check) {
        check.part("of several ways the first (CLOUD by CLOUD the lesser WASHER, left last)");
        CloudLaundry all = Texts.told("white 9 99;fog 9 99;bride 9 99;white 9 99;fog 9 99;bride 9 99;washer 1;washer 2;washer 3");
        check.due("six", all.plan(NONE), 6);
        for (int cloud = 0; cloud < 6; cloud++) {
            check.due("all to the first", all.plan(cloud), 0);
        }
        CloudLaundry x = Texts.told("white 9 2;white 9 2;white 9 2;white 9 2;stain 0 0 2;stain 1 0 2;stain 2 0 2;stain 3 0 2;"
            + "washer 1;washer 1;washer 1");
        check.due("three of four", x.plan(NONE), 3);
        for (int cloud = 0; cloud < 4; cloud++) {
            check.due("one each, the last is left", x.plan(cloud), cloud == 3 ? NONE : cloud);
        }
        CloudLaundry y = Texts.told("white 9 4;white 9 2;white 9 4;stain 0 0 4;stain 1 0 2;stain 2 0 2;washer 1");
        check.due("the most goes ahead of the first", y.plan(NONE), 2);
        check.due("so the first is left", y.plan(0), NONE);
        CloudLaundry z = Texts.told("bride 9 4;white 9 2;stain 0 0 4;stain 1 0 4;washer 2;washer 1");
        check.due("two", z.plan(NONE), 2);
        check.due("to the greater, as the lesser is needed", z.plan(0) * 10 + z.plan(1), 10);
    }

    private static void planNone(Check check) {
        check.part("CLOUDS in the HEAP are shared among WASHERS, or left (stones are taken as free now)");
        CloudLaundry x = Texts.told("fog 9 9;fog 9 9;white 1 9;white 9 9;stain 3 0 9;washer 1;washer 1");
        check.due("three, and one would be gone", x.plan(NONE), 3);
        x.wash(0, 0);
        x.wash(1, 2);
        check.due("both stones are taken, as free", x.plan(1), 0);
        check.due("on a stone", x.plan(0), NONE);
        x.hour(1);
        check.due("gone", x.plan(2), NONE);
        x.hang(0);
        check.due("hung", x.plan(0), NONE);
        x.hour(1);
        x.send(0);
        check.due("sent", x.plan(0), NONE);
        check.due("how many", x.plan(NONE), 1);
        check.due("would be gone", x.plan(3), NONE);
        check.due("no clouds", Texts.told("washer 1").plan(NONE), 0);
        check.due("no washers", Texts.told("white 9 9").plan(NONE), 0);
        check.due("no washers: the cloud", Texts.told("white 9 9").plan(0), NONE);
    }

    private static void needed(Check check) {
        check.part("NEEDED for a set of CLOUDS (bits): SOAP, to have all GOLD of them off");
        String text = "white 9 9;white 9 9;white 9 9;white 9 9;white 9 9;white 9 9";
        CloudLaundry x = Texts.told(text + ";stain 0 5 1;stain 1 5 2;stain 2 5 3;stain 3 5 4;stain 4 5 9;stain 5 5 9;stain 5 0 9;soap 99");
        int[] gold = {1, 2, 3, 4, 9, 9};
        for (int clouds = 0; clouds < 64; clouds++) {
            int want = 0;
            for (int cloud = 0; cloud < 6; cloud++) {
                want += (clouds & 1 << cloud) == 0 ? 0 : gold[cloud];
            }
            check.due("needed(" + clouds + ")", x.needed(clouds), want);
        }
        for (int clouds : new int[] {64, 65, 127, -1, -64, Integer.MIN_VALUE, Integer.MAX_VALUE}) {
            check.due("needed(" + clouds + ")", x.needed(clouds), CloudLaundry.UNKNOWN);
        }
        CloudLaundry y = Texts.told("white 9 9;stain 0 5 3;washer 1;soap 1");
        check.due("the soap there is does not count", y.needed(1), 3);
        y.wash(0, 0);
        y.hour(1);
        check.due("an hour on", y.needed(1), 2);
        check.due("one cloud: a set with another", y.needed(2), CloudLaundry.UNKNOWN);
    }

    private static void seenAtMost(Check check) {
        check.part("SEEN, 6 at most: by n HANDS (1 .. 3) a CLOUD was CLEAN behind h HOURS (0 .. 60)");
        CloudLaundry x = Texts.told("white 9 9;bride 9 9");
        for (int i = 0; i < 6; i++) {
            check.due("seen " + i, x.seen(i % 2, 1 + i % 3, 12 * i), i + 1);
            check.due("count(8)", x.count(8), i + 1);
        }
        check.due("a seventh", x.seen(0, 1, 0), CloudLaundry.FULL);
        check.due("a seventh of the other", x.seen(1, 3, 60), CloudLaundry.FULL);
        check.due("forget()", x.forget(), 6);
        check.due("count(8)", x.count(8), 0);
        check.due("there is room again", x.seen(0, 1, 0), 1);
        check.due("the same again", x.seen(0, 1, 0), 2);
        check.due("forget()", x.forget(), 2);
        check.due("forget() of none", x.forget(), 0);
    }

    private static void seenStays(Check check) {
        check.part("SEEN: till it is forgotten, or another text is done");
        CloudLaundry x = Texts.told("white 9 9;washer 1");
        x.keep(0);
        x.seen(0, 1, 0);
        x.wash(0, 0);
        x.undo();
        check.due("behind undo()", x.count(8), 1);
        x.back(0);
        check.due("behind back()", x.count(8), 1);
        Texts.tell(x, "eye 0");
        check.due("behind a text with a fault", x.count(8), 1);
        x.erase();
        Texts.tell(x, "eye 1");
        check.due("behind a text", x.count(8), 0);
        check.due("what was seen ahead of it is no more", x.kinds(0), 15);
    }

    private static void kindsAllSeen(Check check) {
        check.part("KINDS (0 .. 3, by bits) by which all that is SEEN of a CLOUD would be so");
        int[][] rows = {{2, 12, 10}, {2, 6, 5}, {3, 6, 2}, {3, 4, 5}, {3, 12, 8}, {3, 5, 0}, {1, 11, 0}, {1, 13, 0}};
        for (int[] row : rows) {
            CloudLaundry x = Texts.told("fog 99 9;stain 0 0 9;stain 0 1 3");
            check.due("nothing is seen", x.kinds(0), 15);
            x.seen(0, 1, 12);
            check.due("by 1 in 12: all", x.kinds(0), 15);
            x.seen(0, row[0], row[1]);
            check.due("and by " + row[0] + " in " + row[1], x.kinds(0), row[2]);
        }
        CloudLaundry x = Texts.told("white 9 9;white 9 9;stain 0 0 3;stain 1 0 3");
        x.seen(0, 3, 1);
        x.seen(1, 3, 2);
        check.due("of this one alone", x.kinds(0), 5);
        check.due("of the other alone", x.kinds(1), 2);
        CloudLaundry clean = Texts.told("white 9 9");
        clean.seen(0, 3, 0);
        check.due("a clean one takes none, of any kind", clean.kinds(0), 15);
        clean.seen(0, 3, 1);
        check.due("two that are not so together", clean.kinds(0), 0);
    }

    private static void kindsNoneAsSixty(Check check) {
        check.part("60: none, or just so; if it TAKES as it is now (none as 60)");
        CloudLaundry x = Texts.told("white 5 9;stain 0 0 5;washer 1");
        x.seen(0, 1, 60);
        check.due("all but a bride's would be gone", x.kinds(0), 7);
        x.seen(0, 3, 2);
        check.due("by 3 white and fog would not", x.kinds(0), 5);
        x.forget();
        x.seen(0, 1, 59);
        check.due("59 is no 60", x.kinds(0), 0);
        x.forget();
        x.seen(0, 1, 5);
        check.due("a bride's", x.kinds(0), 8);
        x.wash(0, 0);
        x.hour(1);
        check.due("as it is now", x.kinds(0), 0);
        x.forget();
        x.seen(0, 1, 4);
        check.due("as it is now, a bride's", x.kinds(0), 8);
        x.hour(4);
        x.forget();
        x.seen(0, 1, 60);
        check.due("gone now: none by any kind", x.kinds(0), 15);
        x.seen(0, 1, 0);
        check.due("gone now: not just so", x.kinds(0), 0);
        check.due("what is not seen", Texts.told("white 9 9").kinds(0), 15);
    }

    private static long pick(int n, int k) {
        return k == 0 || k == n ? 1 : pick(n - 1, k - 1) + pick(n - 1, k);
    }

    private static void lightningEdges(Check check) {
        check.part("LIGHTNING: each of n WASHERS (0 .. 8) is struck by q of ten (0 .. 10): the odds that m (0 .. 9) at least are not");
        for (int n = 0; n <= 8; n++) {
            CloudLaundry x = new CloudLaundry();
            for (int q = 0; q <= 10; q++) {
                odds(check, x, n, q, 0, 1, 1);
                odds(check, x, n, q, n + 1, 0, 1);
                odds(check, x, n, q, 9, 0, 1);
            }
            for (int m = 0; m <= 9; m++) {
                odds(check, x, n, 0, m, m <= n ? 1 : 0, 1);
                odds(check, x, n, 10, m, m == 0 ? 1 : 0, 1);
            }
        }
    }

    private static void odds(Check check, CloudLaundry x, int n, int q, int m, long above, long below) {
        String row = "lightning(" + n + ", " + q + ", " + m + ")";
        check.due(row + " above", x.lightning(n, q, m, 0), above);
        check.due(row + " below", x.lightning(n, q, m, 1), below);
    }

    private static void lightningLowestTerms(Check check) {
        check.part("parts are told in lowest terms: above (part 0), below (1)");
        for (int n = 0; n <= 8; n++) {
            for (int q = 0; q <= 10; q++) {
                CloudLaundry x = new CloudLaundry();
                for (int m = 0; m <= 9; m++) {
                    long above = 0;
                    for (int left = m; left <= n; left++) {
                        above += pick(n, left) * Math.round(Math.pow(10 - q, left) * Math.pow(q, n - left));
                    }
                    long below = Math.round(Math.pow(10, n));
                    for (int prime : new int[] {2, 5}) {
                        while (above % prime == 0 && below % prime == 0 && below > 1) {
                            above /= prime;
                            below /= prime;
                        }
                    }
                    odds(check, x, n, q, m, above, below);
                }
            }
        }
    }
}
