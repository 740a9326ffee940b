/** Promises 1 to 5: a new object, and the text: written, erased, read to its first fault, done. */
final class TextTest {
    private TextTest() {
    }

    static void run(Check check) {
        newObject(check);
        write(check);
        erase(check);
        faultInWords(check);
        faultInNumbers(check);
        faultInBounds(check);
        faultBehindOtherTexts(check);
        summer(check);
        summerBeginsAnew(check);
    }

    private static void newObject(Check check) {
        check.part("promise 1");
        CloudLaundry x = new CloudLaundry();
        for (int what = 0; what <= 13; what++) {
            check.due("count(" + what + ")", x.count(what), what == 12 ? 8 : 0);
        }
        check.due("cloud(0, 0)", x.cloud(0, 0), CloudLaundry.UNKNOWN);
        check.due("washer(0, 0)", x.washer(0, 0), CloudLaundry.UNKNOWN);
        check.due("sum(2)", x.sum(2), CloudLaundry.NULL);
        check.due("back(0)", x.back(0), CloudLaundry.NOT);
        CloudLaundry other = Texts.told("white 9 9");
        check.due("clouds of one", other.count(0), 1);
        check.due("clouds of another", x.count(0), 0);
    }

    private static void write(Check check) {
        check.part("promise 2");
        CloudLaundry x = new CloudLaundry();
        check.due("write(-1)", x.write(-1), CloudLaundry.OUTSIDE);
        check.due("write(256)", x.write(256), CloudLaundry.OUTSIDE);
        check.due("write(0)", x.write(0), 1);
        check.due("write(255)", x.write(255), 2);
        for (int i = 3; i <= 200; i++) {
            check.due("write, the letter " + i, x.write('a'), i);
        }
        check.due("write, the letter 201", x.write('a'), CloudLaundry.FULL);
        check.due("write(256), full", x.write(256), CloudLaundry.OUTSIDE);
        check.due("count(11)", x.count(11), 200);
    }

    private static void erase(Check check) {
        check.part("promise 3");
        CloudLaundry x = new CloudLaundry();
        check.due("erase()", x.erase(), 0);
        Texts.write(x, "white");
        check.due("erase()", x.erase(), 5);
        check.due("erase() again", x.erase(), 0);
        check.due("write", x.write('x'), 1);
        check.due("fault()", x.fault(), 0);
    }

    private static void fault(Check check, String text, int want) {
        check.due("fault of '" + text + "'", Texts.fault(new CloudLaundry(), text), want);
    }

    private static void faultInWords(Check check) {
        check.part("promise 4");
        fault(check, "", 0);
        fault(check, "   ", 3);
        fault(check, "summer", CloudLaundry.NONE);
        fault(check, "  summer  ", CloudLaundry.NONE);
        fault(check, "summer;summer", CloudLaundry.NONE);
        fault(check, "summer ; summer", CloudLaundry.NONE);
        fault(check, "summer;", 7);
        fault(check, "summer;  ", 9);
        fault(check, ";summer", 0);
        fault(check, "summer;;summer", 7);
        fault(check, "summer summer", 7);
        fault(check, "summer 3", 7);
        fault(check, "Summer", 0);
        fault(check, "summers", 0);
        fault(check, "summe", 0);
        fault(check, "sum mer", 0);
        fault(check, "rummer", 0);
        fault(check, "eyez 3", 0);
        fault(check, "eye 3a", 5);
        fault(check, "summer.", 6);
        fault(check, "\tsummer", 0);
        fault(check, "eye 3\u00e9", 5);
        fault(check, "7", 0);
        fault(check, "snow 1 1", 0);
        fault(check, "white20 6", CloudLaundry.NONE);
        fault(check, "eye\n3", 3);
    }

    private static void faultInNumbers(Check check) {
        check.part("promise 4");
        fault(check, "white", 5);
        fault(check, "white 9", 7);
        fault(check, "white 9 ", 8);
        fault(check, "white 9;", 7);
        fault(check, "white 9 9 9", 10);
        fault(check, "white x 9", 6);
        fault(check, "white 9 white", 8);
        fault(check, "white 001 9", 6);
        fault(check, "white 01 09", CloudLaundry.NONE);
        fault(check, "white -1 9", 6);
        fault(check, "white 99999999999999999999 9", 6);
        fault(check, "soap 100", 5);
        fault(check, "soap 000", 5);
        fault(check, "washer 1 2", 9);
        fault(check, "white 9 9;stain 0 1", 19);
        fault(check, "white 9 9;stain 0 1 2 3", 22);
    }

    private static void faultInBounds(Check check) {
        check.part("promise 4");
        for (String kind : "white thunder fog bride".split(" ")) {
            int first = kind.length() + 1;
            fault(check, kind + " 1 0", CloudLaundry.NONE);
            fault(check, kind + " 99 99", CloudLaundry.NONE);
            fault(check, kind + " 0 9", first);
            fault(check, kind + " 100 9", first);
            fault(check, kind + " 9 100", first + 2);
        }
        fault(check, "stain 0 0 0", 6);
        fault(check, "white 9 9;stain 1 0 0", 16);
        fault(check, "white 9 9;stain 0 6 0", 18);
        fault(check, "white 9 9;stain 0 5 10", 20);
        fault(check, "white 9 9;stain 0 5 9", CloudLaundry.NONE);
        fault(check, "white 9 9;stain 00 00 00", CloudLaundry.NONE);
        fault(check, "stain 0 0 0;white 9 9", 6);
        fault(check, "white 9 9;summer;stain 0 0 0", 23);
        fault(check, "washer 0", 7);
        fault(check, "washer 4", 7);
        fault(check, "washer 1;washer 3;washer 03", CloudLaundry.NONE);
        fault(check, "washer 1;washer 3;washer 3;washer 1", 27);
        fault(check, "washer 1;washer 3;washer 3;washer 9", 27);
        fault(check, "washer 1;washer 3;washer 3;summer;washer 1", CloudLaundry.NONE);
        fault(check, "soap 0", CloudLaundry.NONE);
        fault(check, "soap 99", CloudLaundry.NONE);
        fault(check, "eye 0", 4);
        fault(check, "eye 1", CloudLaundry.NONE);
        fault(check, "eye 99", CloudLaundry.NONE);
        String six = "fog 1 1;".repeat(6);
        fault(check, six + "eye 1", CloudLaundry.NONE);
        fault(check, six + "fog 1 1", 48);
        fault(check, six + "fog", 48);
        fault(check, six + "summer;fog 1 1", CloudLaundry.NONE);
        fault(check, "summer;".repeat(19) + "summer", CloudLaundry.NONE);
        fault(check, "summer;".repeat(20) + "summer", 139);
        fault(check, "summer;".repeat(20), 139);
    }

    private static void faultBehindOtherTexts(Check check) {
        check.part("promise 4");
        CloudLaundry x = Texts.told("white 9 9;fog 9 9;washer 1;washer 1");
        check.due("stain 1", Texts.fault(x, "stain 1 0 0"), CloudLaundry.NONE);
        check.due("stain 2", Texts.fault(x, "stain 2 0 0"), 6);
        check.due("seventh cloud", Texts.fault(x, "fog 1 1;".repeat(5)), 32);
        check.due("fourth washer", Texts.fault(x, "washer 1;washer 1"), 9);
        Texts.write(x, "bride 1 1;stain 2 5 9;summer;washer 1");
        check.due("fault()", x.fault(), CloudLaundry.NONE);
        check.due("fault() again", x.fault(), CloudLaundry.NONE);
        check.due("nothing was done", x.count(0) * 10 + x.count(1), 22);
        check.due("the text stays", x.count(11), 37);
    }

    private static void summer(Check check) {
        check.part("promise 5");
        CloudLaundry x = new CloudLaundry();
        check.due("summer() without a text", x.summer(), CloudLaundry.NOT);
        Texts.write(x, "white 9 9;eye 0");
        check.due("summer() with a fault", x.summer(), CloudLaundry.NOT);
        check.due("the text stays", x.count(11), 15);
        check.due("nothing is done", x.count(0), 0);
        x.erase();
        check.due("summer()", Texts.tell(x, "white 20 6;stain 0 1 4;stain 0 1 3;washer 2;soap 7;soap 8;eye 16"), 7);
        check.due("the text is empty", x.count(11), 0);
        check.due("kind", x.cloud(0, 0), 0);
        check.due("size", x.cloud(0, 1), 20);
        check.due("due", x.cloud(0, 2), 6);
        check.due("whatever it was", x.deep(0, 1), 3);
        check.due("hands", x.washer(0, 0), 2);
        check.due("soap", x.count(2), 8);
        check.due("eye", x.count(12), 16);
        check.due("summer() without a clause", x.summer(), CloudLaundry.NOT);
        check.due("twenty", Texts.tell(x, "eye 1;".repeat(19) + "eye 2"), 20);
        check.due("a stain told ahead of summer", Texts.tell(x, "stain 0 0 9;summer;fog 1 2"), 3);
        check.due("it is not on the cloud behind", x.deep(0, 0), 0);
        check.due("soap as at first", x.count(2), 0);
        check.due("eye as at first", x.count(12), 8);
        check.due("washers as at first", x.count(1), 0);
        check.due("clouds", x.count(0), 1);
    }

    private static void summerBeginsAnew(Check check) {
        check.part("promise 5");
        CloudLaundry x = Texts.told("white 20 6;fog 1 9;stain 0 2 9;stain 1 0 9;soap 3;washer 3;eye 5");
        x.soap(5);
        x.wash(0, 0);
        x.hour(1);
        x.hang(0);
        x.wash(0, 1);
        x.hour(2);
        x.seen(0, 1, 1);
        x.keep(0);
        x.keep(1);
        x.line(0, 0, 3);
        x.line(1, 0, 0);
        x.line(2, 0, 1);
        check.due("it went on", x.cloud(0, 3) * 10 + x.cloud(1, 3), 24);
        check.due("summer()", Texts.tell(x, "stain 0 0 1"), 1);
        check.due("size as told", x.cloud(0, 1), 20);
        check.due("stain as told", x.deep(0, 2), 9);
        check.due("stain told now", x.deep(0, 0), 1);
        check.due("size as told", x.cloud(1, 1), 1);
        check.due("in the heap", x.count(4), 3);
        check.due("it has not hung", x.cloud(0, 5), 0);
        check.due("her stone", x.washer(0, 1), CloudLaundry.NONE);
        check.due("soap as told", x.count(2), 3);
        check.due("hour", x.count(3), 0);
        check.due("seen", x.count(8), 0);
        check.due("lines", x.count(9), 0);
        check.due("undo", x.undo(), CloudLaundry.NOT);
        check.due("kept 0", x.back(0), CloudLaundry.NOT);
        check.due("kept 1", x.back(1), CloudLaundry.NOT);
        check.due("water", x.count(13), 0);
        check.due("eye as told", x.count(12), 5);
        check.due("a missing line", x.peg(0, 0, 2), CloudLaundry.NULL);
    }
}
