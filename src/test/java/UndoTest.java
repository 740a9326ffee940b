/** Promises 17 to 19: undo, keep, back. */
final class UndoTest {
    private UndoTest() {
    }

    static void run(Check check) {
        undo(check);
        undoKeepsEight(check);
        undoLeavesTheRest(check);
        keep(check);
        back(check);
        backLeavesTheRest(check);
    }

    private static void undo(Check check) {
        check.part("promise 17");
        CloudLaundry x = Texts.told("fog 20 6;stain 0 5 1;soap 1;washer 1");
        check.due("undo()", x.undo(), CloudLaundry.NOT);
        x.wash(0, 0);
        x.hour(2);
        x.hang(0);
        x.hour(3);
        x.send(0);
        check.due("what can be undone", x.count(10), 5);
        check.due("undo send", x.undo(), 4);
        check.due("hung", x.cloud(0, 3) * 10 + x.cloud(0, 5), 23);
        check.due("undo hour", x.undo(), 3);
        check.due("hung", x.cloud(0, 3) * 10 + x.cloud(0, 5), 20);
        check.due("hour", x.count(3), 2);
        check.due("water", x.water(1, 5), 32);
        check.due("undo hang", x.undo(), 2);
        check.due("on the stone", x.washer(0, 1), 0);
        check.due("undo hour", x.undo(), 1);
        check.due("size", x.cloud(0, 1), 20);
        check.due("gold", x.deep(0, 5), 1);
        check.due("soap", x.count(2), 1);
        check.due("water", x.count(13), 0);
        check.due("undo wash", x.undo(), 0);
        check.due("in the heap", x.count(4), 1);
        check.due("her stone", x.washer(0, 1), CloudLaundry.NONE);
        check.due("undo()", x.undo(), CloudLaundry.NOT);
        x.wash(0, 0);
        x.hang(0);
        x.hour(2);
        x.again(0);
        check.due("undo again", x.undo(), 3);
        check.due("hung", x.cloud(0, 3) * 10 + x.cloud(0, 5), 22);
        x.soap(20);
        check.due("undo soap", x.undo(), 3);
        check.due("soap", x.count(2), 1);
    }

    private static void undoKeepsEight(Check check) {
        check.part("promise 17");
        CloudLaundry x = new CloudLaundry();
        for (int i = 1; i <= 11; i++) {
            x.hour(i);
            check.due("what can be undone", x.count(10), Math.min(8, i));
        }
        x.hour(13);
        x.soap(0);
        x.hang(0);
        check.due("what is refused is not among them", x.count(10), 8);
        int hour = 66;
        for (int i = 11; i >= 4; i--) {
            check.due("undo()", x.undo(), i - 4);
            hour -= i;
            check.due("hour", x.count(3), hour);
        }
        check.due("undo()", x.undo(), CloudLaundry.NOT);
        x.hour(1);
        check.due("undo()", x.undo(), 0);
        check.due("hour", x.count(3), 6);
    }

    private static void undoLeavesTheRest(Check check) {
        check.part("promise 17");
        CloudLaundry x = Texts.told("fog 20 6;stain 0 0 3;washer 1");
        x.wash(0, 0);
        x.hour(1);
        x.line(0, 0, 4);
        x.pin(0, 0, 0, 0);
        x.seen(0, 1, 1);
        x.keep(0);
        Texts.write(x, "eye");
        check.due("sum", x.sum(0), 100_002);
        check.due("undo()", x.undo(), 1);
        check.due("lines stay, clouds are as they are now", x.sum(0), 100_003);
        check.due("seen stays", x.count(8), 1);
        check.due("the text stays", x.count(11), 3);
        check.due("what is kept stays", x.back(0), 1);
        check.due("deep", x.deep(0, 0), 2);
    }

    private static void keep(Check check) {
        check.part("promise 18");
        CloudLaundry x = Texts.told("fog 20 6;stain 0 0 3;washer 1");
        check.due("keep(-1)", x.keep(-1), CloudLaundry.UNKNOWN);
        check.due("keep(2)", x.keep(2), CloudLaundry.UNKNOWN);
        check.due("keep(0)", x.keep(0), 0);
        x.wash(0, 0);
        x.hour(2);
        check.due("keep(1)", x.keep(1), 2);
        check.due("what can be undone stays", x.count(10), 2);
        x.hour(1);
        check.due("back(0)", x.back(0), 0);
        check.due("in the heap", x.count(4), 1);
        check.due("back(1)", x.back(1), 2);
        check.due("on the stone", x.cloud(0, 3), 1);
        check.due("deep", x.deep(0, 0), 1);
        check.due("size", x.cloud(0, 1), 16);
        check.due("water", x.water(1, 0), 32);
        x.hour(4);
        check.due("keep(1) anew", x.keep(1), 6);
        x.back(0);
        check.due("back(1)", x.back(1), 6);
    }

    private static void back(Check check) {
        check.part("promise 19");
        CloudLaundry x = Texts.told("fog 20 6;stain 0 0 3;washer 1;soap 4");
        check.due("back(-1)", x.back(-1), CloudLaundry.UNKNOWN);
        check.due("back(2)", x.back(2), CloudLaundry.UNKNOWN);
        check.due("back(0)", x.back(0), CloudLaundry.NOT);
        x.soap(3);
        x.hour(3);
        x.keep(1);
        check.due("back(0)", x.back(0), CloudLaundry.NOT);
        x.hour(3);
        x.soap(3);
        check.due("back(1)", x.back(1), 3);
        check.due("hour", x.count(3), 3);
        check.due("soap", x.count(2), 7);
        check.due("nothing can be undone", x.undo(), CloudLaundry.NOT);
        x.soap(1);
        check.due("back(1) again", x.back(1), 3);
        check.due("soap", x.count(2), 7);
        Texts.tell(x, "eye 9");
        check.due("back(1) behind a text", x.back(1), CloudLaundry.NOT);
    }

    private static void backLeavesTheRest(Check check) {
        check.part("promise 19");
        CloudLaundry x = Texts.told("fog 20 6;stain 0 0 3;washer 1");
        Texts.write(x, "ey");
        x.keep(0);
        Texts.write(x, "e 9");
        x.line(0, 0, 4);
        x.pin(0, 0, 0, 0);
        x.seen(0, 1, 1);
        x.wash(0, 0);
        x.hour(1);
        check.due("back(0)", x.back(0), 0);
        check.due("lines stay", x.sum(0), 100_003);
        check.due("seen stays", x.count(8), 1);
        check.due("the text is as it was kept", x.count(11), 2);
        x.erase();
        Texts.write(x, "soap 9");
        x.back(0);
        Texts.write(x, "e 9");
        check.due("its letters too", x.fault(), CloudLaundry.NONE);
    }
}
