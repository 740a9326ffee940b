/** The document's sentences on undo(), keep(), back() and on what a text begins anew, each at its edges. */
final class UndoEdgesTest {
    private static final int NOT = CloudLaundry.NOT;

    private UndoEdgesTest() {
    }

    private interface Deed {
        int on(CloudLaundry x);
    }

    static void run(Check check) {
        eachIsUndone(check);
        whatIsNoDeed(check);
        theLastEight(check);
        behindUndo(check);
        whatUndoLeaves(check);
        twoAreKept(check);
        keptAnew(check);
        whatIsKept(check);
        backUndoesNothing(check);
        sinceTheLastText(check);
        behindAText(check);
        aRefusedText(check);
    }

    /** Cloud 0 is on the stone of washer 0, 1 is hung, clean and dry, 2 is in the heap; nothing can be undone. */
    private static CloudLaundry scene() {
        CloudLaundry x = Texts.told("white 9 9;fog 9 9;bride 9 0;stain 0 0 9;stain 0 5 9;stain 2 3 5;washer 3;washer 1;soap 50");
        x.wash(0, 1);
        x.hang(0);
        x.wash(0, 0);
        x.hour(2);
        x.keep(0);
        x.back(0);
        return x;
    }

    private static void undone(Check check, String name, Deed deed) {
        CloudLaundry x = scene();
        check.holds(name + " is done", deed.on(x) >= 0);
        check.due(name + " can be undone", x.count(10), 1);
        check.due(name + " is undone", x.undo(), 0);
        check.holds(name + " has left nothing", Sight.of(x).equals(Sight.of(scene())));
    }

    private static void eachIsUndone(Check check) {
        check.part("the latest wash(), hang(), again(), send(), soap(), hour() is undone");
        undone(check, "wash", x -> x.wash(1, 2));
        undone(check, "hang", x -> x.hang(0));
        undone(check, "again", x -> x.again(1));
        undone(check, "send", x -> x.send(1));
        undone(check, "soap", x -> x.soap(20));
        undone(check, "hour", x -> x.hour(1));
        undone(check, "twelve hours, in which it is gone", x -> x.hour(12));
    }

    private static void whatIsNoDeed(Check check) {
        check.part("the latest wash(), hang(), again(), send(), soap(), hour() (nothing else)");
        CloudLaundry x = scene();
        x.soap(1);
        x.write('a');
        x.erase();
        x.summer();
        x.keep(1);
        x.seen(0, 1, 1);
        x.forget();
        x.line(0, 0, 1);
        x.pin(0, 0, 1, 1);
        x.move(0, 0, 0, 0, 1);
        x.drop(0);
        x.soap(0);
        x.hour(13);
        x.wash(0, 2);
        x.hang(1);
        x.again(0);
        x.send(0);
        check.due("what can be undone", x.count(10), 1);
        check.due("undo()", x.undo(), 0);
        check.due("the soap", x.count(2), 47);
        check.due("undo() again", x.undo(), NOT);
    }

    private static void theLastEight(Check check) {
        check.part("the last 8 can be");
        for (int deeds = 0; deeds <= 20; deeds++) {
            CloudLaundry x = new CloudLaundry();
            for (int i = 0; i < deeds; i++) {
                x.hour(1);
            }
            int can = Math.min(8, deeds);
            check.due("what can be undone of " + deeds, x.count(10), can);
            for (int i = 1; i <= can; i++) {
                check.due("undo " + i + " of " + deeds, x.undo(), can - i);
                check.due("the hour", x.count(3), deeds - i);
            }
            check.due("one more of " + deeds, x.undo(), NOT);
            check.due("the hour stays", x.count(3), deeds - can);
        }
    }

    private static void behindUndo(Check check) {
        check.part("how many can be undone yet");
        CloudLaundry x = new CloudLaundry();
        for (int i = 1; i <= 10; i++) {
            x.hour(i);
        }
        check.due("undo()", x.undo(), 7);
        check.due("undo()", x.undo(), 6);
        x.soap(1);
        check.due("a new deed", x.count(10), 7);
        x.soap(2);
        x.soap(3);
        check.due("eight again", x.count(10), 8);
        check.due("what is undone does not come back", x.count(3), 36);
        check.due("undo()", x.undo(), 7);
        check.due("soap", x.count(2), 3);
        check.due("undo()", x.undo(), 6);
        check.due("undo()", x.undo(), 5);
        check.due("soap", x.count(2), 0);
        for (int left = 4; left >= 0; left--) {
            check.due("undo()", x.undo(), left);
        }
        check.due("the hour", x.count(3), 1 + 2 + 3);
        check.due("undo()", x.undo(), NOT);
    }

    private static void whatUndoLeaves(Check check) {
        check.part("undone: what was done alone");
        CloudLaundry x = scene();
        x.soap(1);
        x.hour(1);
        x.line(1, 2, 3);
        x.pin(1, 2, 1, 5);
        x.seen(0, 1, 1);
        x.keep(1);
        Texts.write(x, "eye");
        check.due("undo()", x.undo(), 1);
        check.due("the line stays", x.sum(1), 100_005);
        check.due("seen stays", x.count(8), 1);
        check.due("the text stays", x.count(11), 3);
        check.due("what is kept stays", x.back(1), 3);
        check.due("soap as kept", x.count(2), 47);
    }

    private static void twoAreKept(Check check) {
        check.part("is kept (k 0, 1); UNKNOWN: no such k");
        CloudLaundry x = new CloudLaundry();
        for (int k : new int[] {-1, 2, Integer.MIN_VALUE, Integer.MAX_VALUE}) {
            check.due("keep(" + k + ")", x.keep(k), CloudLaundry.UNKNOWN);
            check.due("back(" + k + ")", x.back(k), CloudLaundry.UNKNOWN);
        }
        check.due("back(0), nothing was kept", x.back(0), NOT);
        check.due("back(1), nothing was kept", x.back(1), NOT);
        check.due("keep(1) at hour 0", x.keep(1), 0);
        check.due("back(0), kept in the other", x.back(0), NOT);
        x.hour(5);
        check.due("keep(0) at hour 5", x.keep(0), 5);
        x.hour(5);
        check.due("back(1)", x.back(1), 0);
        check.due("back(0)", x.back(0), 5);
        check.due("back(0) again", x.back(0), 5);
        check.due("back(1) again", x.back(1), 0);
        check.due("the hour", x.count(3), 0);
    }

    private static void keptAnew(Check check) {
        check.part("keep(): what was kept in k ahead of it is kept no more");
        CloudLaundry x = new CloudLaundry();
        x.keep(0);
        x.hour(3);
        x.keep(0);
        x.hour(3);
        check.due("back(0)", x.back(0), 3);
        x.soap(7);
        check.due("keep(0) of what came back", x.keep(0), 3);
        x.soap(7);
        x.back(0);
        check.due("soap", x.count(2), 7);
    }

    private static void whatIsKept(Check check) {
        check.part("all as it is (but SEEN, LINES, what can be undone) is kept");
        CloudLaundry x = scene();
        x.keep(1);
        x.hour(1);
        x.send(1);
        x.wash(1, 2);
        x.hour(4);
        x.soap(9);
        x.hang(1);
        check.due("back(1)", x.back(1), 2);
        check.due("hour", x.count(3), 2);
        check.holds("all is as it was kept", sameBut(x));
        CloudLaundry y = scene();
        y.seen(0, 1, 1);
        y.line(0, 0, 2);
        y.keep(1);
        y.forget();
        y.drop(0);
        y.line(1, 1, 3);
        y.back(1);
        check.due("seen is as it is now", y.count(8), 0);
        check.due("lines are as they are now", y.count(9), 1);
        check.due("the line that was dropped", y.sum(0), CloudLaundry.NULL);
        check.due("the line that was made", y.sum(1), 100_000);
    }

    private static boolean sameBut(CloudLaundry x) {
        CloudLaundry twin = scene();
        twin.keep(1);
        return Sight.of(x).equals(Sight.of(twin));
    }

    private static void backUndoesNothing(Check check) {
        check.part("nothing can be undone");
        CloudLaundry x = scene();
        x.soap(1);
        x.soap(1);
        check.due("ahead of it", x.count(10), 2);
        x.keep(1);
        check.due("keep() leaves it", x.count(10), 2);
        x.back(1);
        check.due("behind back()", x.count(10), 0);
        check.due("undo()", x.undo(), NOT);
        check.due("soap as kept", x.count(2), 49);
        x.soap(1);
        check.due("a deed behind it", x.undo(), 0);
        check.due("soap as kept", x.count(2), 49);
    }

    private static void sinceTheLastText(Check check) {
        check.part("NOT: nothing was kept since the last text");
        CloudLaundry x = Texts.told("white 9 9");
        x.keep(0);
        x.keep(1);
        Texts.write(x, "eye 0");
        x.summer();
        x.erase();
        check.due("a text with a fault is none", x.back(0), 0);
        Texts.tell(x, "eye 1");
        check.due("back(0)", x.back(0), NOT);
        check.due("back(1)", x.back(1), NOT);
        x.keep(1);
        check.due("back(0)", x.back(0), NOT);
        check.due("back(1)", x.back(1), 0);
        check.due("the eye of the last text", x.count(12), 1);
    }

    private static void behindAText(Check check) {
        check.part("behind them it is HOUR 0, nothing is SEEN, nothing is kept or can be undone");
        CloudLaundry x = scene();
        x.hour(1);
        x.soap(20);
        x.send(1);
        x.wash(1, 2);
        x.seen(0, 1, 1);
        x.line(0, 0, 0);
        x.line(2, 2, 16);
        check.due("summer()", Texts.tell(x, "soap 4"), 1);
        CloudLaundry twin = Texts.told("white 9 9;fog 9 9;bride 9 0;stain 0 0 9;stain 0 5 9;stain 2 3 5;washer 3;washer 1;soap 4");
        check.holds("all is as told", Sight.of(x).equals(Sight.of(twin)));
        check.due("soap as told, not as it was", x.count(2), 4);
        Texts.tell(x, "eye 9");
        check.due("soap as an earlier text told", x.count(2), 4);
        x.soap(20);
        Texts.tell(x, "summer");
        check.holds("all as at first", Sight.of(x).equals(Sight.of(new CloudLaundry())));
    }

    private static void aRefusedText(Check check) {
        check.part("NOT: it has a FAULT (and none of its clauses is done)");
        CloudLaundry x = scene();
        check.due("summer()", Texts.tell(x, "summer;soap 9;eye 0"), NOT);
        check.due("the text stays", x.erase(), 19);
        check.holds("all is as it was", Sight.of(x).equals(Sight.of(scene())));
        CloudLaundry y = scene();
        Texts.tell(y, "stain 2 3 1;white 0 0");
        y.erase();
        Texts.tell(y, "eye 5");
        check.due("nor behind the next text", y.deep(2, 3), 5);
        check.due("clouds", y.count(0), 3);
    }
}
