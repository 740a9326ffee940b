import java.util.List;

/** The document's sentences on THE TEXT, each at its edges: the sentence is the part's name. */
final class TextEdgesTest {
    private static final int NONE = CloudLaundry.NONE;
    private static final List<String> CLAUSES = List.of("summer", "white 20 6", "thunder 1 0", "fog 99 99", "bride 7 7", "stain 0 5 9",
        "washer 3", "soap 0", "eye 1");

    private TextEdgesTest() {
    }

    static void run(Check check) {
        letters(check);
        lettersAtMost(check);
        clausesAtMost(check);
        semicolonsBetween(check);
        cloudsAtMost(check);
        washersAtMost(check);
        boundsOfNumbers(check);
        digitsOfNumbers(check);
        cloudToldAhead(check);
        blanksBetween(check);
        anyOtherLetter(check);
        wordsAsTold(check);
        firstToken(check);
        endTooSoon(check);
        aTokenTooMany(check);
    }

    /** Behind a text that told a cloud, so that a stain can stand first. */
    private static void fault(Check check, String text, int want) {
        check.due("fault of '" + text + "'", Texts.fault(Texts.told("white 9 9"), text), want);
    }

    private static void letters(Check check) {
        check.part("a letter (its number, 0 .. 255)");
        for (int letter : new int[] {0, 1, 31, 32, 127, 128, 254, 255}) {
            check.due("write(" + letter + ")", new CloudLaundry().write(letter), 1);
        }
        for (int letter : new int[] {-1, -2, 256, 257, 65536, Integer.MIN_VALUE, Integer.MAX_VALUE}) {
            CloudLaundry x = new CloudLaundry();
            check.due("write(" + letter + ")", x.write(letter), CloudLaundry.OUTSIDE);
            check.due("letters behind it", x.count(11), 0);
        }
    }

    private static void lettersAtMost(Check check) {
        check.part("THE TEXT is a row of letters, 200 at most");
        CloudLaundry x = new CloudLaundry();
        Texts.write(x, "eye 7" + " ".repeat(195));
        check.due("fault of 200 letters", x.fault(), NONE);
        check.due("a letter 201", x.write('z'), CloudLaundry.FULL);
        check.due("it did not come", x.fault(), NONE);
        check.due("summer()", x.summer(), 1);
        check.due("the eye", x.count(12), 7);
        check.due("there is room again", x.write('z'), 1);
        check.due("erase() of one", x.erase(), 1);
        Texts.write(x, "summer;" + " ".repeat(193));
        check.due("a fault at the end of 200", x.fault(), 200);
        check.due("erase() of 200", x.erase(), 200);
        check.due("there is room again", x.write('z'), 1);
        x.erase();
        Texts.write(x, " ".repeat(194) + "summer");
        check.due("a token that ends with the letter 200", x.fault(), NONE);
        x.erase();
        Texts.write(x, " ".repeat(195) + "summe");
        check.due("a token that would need a letter 201", x.fault(), 195);
        x.erase();
        Texts.write(x, " ".repeat(196) + "eye ");
        check.due("a number that would need a letter 201", x.fault(), 200);
    }

    private static void clausesAtMost(Check check) {
        check.part("CLAUSES, 20 at most");
        for (int n = 1; n <= 20; n++) {
            CloudLaundry x = new CloudLaundry();
            check.due(n + " clauses", Texts.tell(x, "soap 1;".repeat(n - 1) + "soap 2"), n);
            check.due("the last is done too", x.count(2), 2);
        }
        CloudLaundry x = new CloudLaundry();
        check.due("21", Texts.tell(x, "soap 1;".repeat(20) + "soap 2"), CloudLaundry.NOT);
        check.due("none of them is done", x.count(2), 0);
        check.due("the fault is behind the twentieth", x.fault(), 139);
        x.erase();
        check.due("20 in one text", Texts.tell(x, "soap 1;".repeat(19) + "soap 3"), 20);
        check.due("and 20 in the next", Texts.tell(x, "soap 1;".repeat(19) + "soap 4"), 20);
        check.due("soap", x.count(2), 4);
    }

    private static void semicolonsBetween(Check check) {
        check.part("CLAUSES with ; between");
        for (String clause : CLAUSES) {
            int length = clause.length();
            fault(check, clause, NONE);
            fault(check, ";" + clause, 0);
            fault(check, clause + ";", length + 1);
            fault(check, clause + ";;eye 1", length + 1);
            fault(check, clause + ",eye 1", length);
            fault(check, clause + " eye 1", length + 1);
            fault(check, "eye 1;" + clause, NONE);
            fault(check, "eye 1; " + clause + " ;eye 1", NONE);
        }
        fault(check, ";", 0);
        fault(check, " ;", 1);
    }

    private static void cloudsAtMost(Check check) {
        check.part("a seventh cannot stand there (at its word)");
        String six = "white 1 1;fog 1 1;bride 1 1;thunder 1 1;fog 1 1;bride 1 1";
        CloudLaundry x = Texts.told(six);
        check.due("six", x.count(0), 6);
        check.due("the sixth", x.cloud(5, 0), 3);
        check.due("no seventh", x.cloud(6, 0), CloudLaundry.UNKNOWN);
        for (String kind : List.of("white", "thunder", "fog", "bride")) {
            check.due("a seventh " + kind, Texts.fault(x, kind + " 1 1"), 0);
            check.due("its word alone", Texts.fault(x, "eye 1;" + kind), 6);
            check.due("its word, wrong behind", Texts.fault(x, "eye 1; " + kind + " 0 100"), 7);
            check.due("behind summer", Texts.fault(x, "summer;" + kind + " 1 1"), NONE);
            check.due("a seventh of one text", Texts.fault(new CloudLaundry(), six + ";" + kind + " 1 1"), six.length() + 1);
        }
        check.due("six behind summer", Texts.tell(x, "summer;" + six), 7);
        check.due("six", x.count(0), 6);
        CloudLaundry y = Texts.told("white 1 1;white 1 1;white 1 1;white 1 1;white 1 1");
        check.due("a sixth in a later text", Texts.fault(y, "fog 1 1"), NONE);
        check.due("a seventh in a later text", Texts.fault(y, "fog 1 1;fog 1 1"), 8);
    }

    private static void washersAtMost(Check check) {
        check.part("washer: one more, a fourth cannot");
        CloudLaundry x = Texts.told("washer 1;washer 2");
        check.due("a third in a later text", Texts.fault(x, "washer 3"), NONE);
        check.due("a fourth in a later text", Texts.fault(x, "washer 3;washer 3"), 9);
        check.due("its word alone", Texts.fault(x, "washer 3;washer"), 9);
        Texts.tell(x, "washer 3");
        check.due("three", x.count(1), 3);
        check.due("the third", x.washer(2, 0), 3);
        check.due("no fourth", x.washer(3, 0), CloudLaundry.UNKNOWN);
        check.due("a fourth", Texts.fault(x, "washer 1"), 0);
        check.due("behind summer", Texts.fault(x, "summer;washer 1;washer 1;washer 1"), NONE);
        check.due("a fourth behind summer", Texts.fault(x, "summer;washer 1;washer 1;washer 1;washer 1"), 34);
    }

    private static void bounds(Check check, String ahead, String behind, int low, int high) {
        for (int value : new int[] {0, 1, 2, 3, 4, 5, 6, 7, 9, 10, 11, 98, 99, 100, 101, 255, 256, 999}) {
            boolean stands = value >= low && value <= high;
            fault(check, ahead + value + behind, stands ? NONE : ahead.length());
        }
    }

    private static void boundsOfNumbers(Check check) {
        check.part("a number out of its bounds");
        for (String kind : List.of("white", "thunder", "fog", "bride")) {
            bounds(check, kind + " ", " 5", 1, 99);
            bounds(check, kind + " 5 ", "", 0, 99);
        }
        bounds(check, "stain ", " 0 0", 0, 0);
        bounds(check, "stain 0 ", " 0", 0, 5);
        bounds(check, "stain 0 0 ", "", 0, 9);
        bounds(check, "washer ", "", 1, 3);
        bounds(check, "soap ", "", 0, 99);
        bounds(check, "eye ", "", 1, 99);
    }

    private static void digitsOfNumbers(Check check) {
        check.part("numbers of 1 or 2 digits (of more digits, also)");
        fault(check, "white 01 00", NONE);
        fault(check, "white 00 1", 6);
        fault(check, "stain 00 05 09", NONE);
        fault(check, "stain 000 5 9", 6);
        fault(check, "stain 0 005 9", 8);
        fault(check, "stain 0 5 009", 10);
        fault(check, "washer 03", NONE);
        fault(check, "washer 003", 7);
        fault(check, "soap 00", NONE);
        fault(check, "soap 000", 5);
        fault(check, "eye 001", 4);
        fault(check, "eye 4294967297", 4);
        fault(check, "eye 18446744073709551617", 4);
        CloudLaundry x = Texts.told("eye 07;soap 10;white 90 09");
        check.due("07", x.count(12), 7);
        check.due("10", x.count(2), 10);
        check.due("90", x.cloud(0, 1), 90);
        check.due("09", x.cloud(0, 2), 9);
    }

    private static void cloudToldAhead(Check check) {
        check.part("stain: of CLOUD C told ahead STAIN K is N DEEP (whatever it was)");
        for (int clouds = 0; clouds <= 6; clouds++) {
            String text = "fog 9 9;".repeat(clouds) + "stain ";
            for (int cloud = 0; cloud <= 7; cloud++) {
                int want = cloud < clouds ? NONE : text.length();
                check.due(text + cloud, Texts.fault(new CloudLaundry(), text + cloud + " 0 0"), want);
            }
        }
        check.due("a cloud told behind", Texts.fault(new CloudLaundry(), "stain 0 0 0;fog 9 9"), 6);
        check.due("told ahead of summer", Texts.fault(Texts.told("fog 9 9"), "summer;stain 0 0 0"), 13);
        CloudLaundry x = Texts.told("fog 9 9;stain 0 0 9;stain 0 0 4;stain 0 1 9;stain 0 1 0");
        check.due("the later of two", x.deep(0, 0), 4);
        check.due("none again", x.deep(0, 1), 0);
        check.due("0 unless told", x.deep(0, 2), 0);
        Texts.tell(x, "stain 0 0 5");
        check.due("a later text", x.deep(0, 0), 5);
    }

    private static void blanksBetween(Check check) {
        check.part("blanks between");
        fault(check, "   stain   0   5   9   ;   eye   1   ", NONE);
        fault(check, "stain0 5 9", NONE);
        fault(check, "soap5;eye5", NONE);
        fault(check, "soap 5;eye 5", NONE);
        fault(check, "soap 1 1", 7);
        fault(check, "so ap 1", 0);
        fault(check, " ", 1);
        fault(check, " ".repeat(200), 200);
    }

    private static void anyOtherLetter(Check check) {
        check.part("any other letter");
        for (int letter = 0; letter < 256; letter++) {
            char sign = (char) letter;
            boolean digit = sign >= '0' && sign <= '9';
            boolean small = sign >= 'a' && sign <= 'z';
            int want = sign == ';' ? NONE : sign == ' ' || digit ? 6 : 5;
            fault(check, "eye 1" + sign + "eye 2", want);
            fault(check, sign + "eye 2", sign == ' ' ? NONE : 0);
            fault(check, "eye" + sign + "2", sign == ' ' || digit ? NONE : small ? 0 : 3);
        }
        fault(check, "eye 1..", 5);
        fault(check, "eye 1.;", 5);
    }

    private static void wordsAsTold(Check check) {
        check.part("each is one of (small letters)");
        for (String clause : CLAUSES) {
            fault(check, Character.toUpperCase(clause.charAt(0)) + clause.substring(1), 0);
            fault(check, clause.substring(1), 0);
            fault(check, "x" + clause, 0);
            int word = clause.indexOf(' ') < 0 ? clause.length() : clause.indexOf(' ');
            fault(check, clause.substring(0, word - 1) + clause.substring(word), 0);
            fault(check, clause.substring(0, word) + "s" + clause.substring(word), 0);
        }
        for (String word : List.of("cloud 1 1", "hang 1", "wash 1", "salt 1", "rain 3", "a", "z", "12", "1 white")) {
            fault(check, word, 0);
        }
    }

    private static void firstToken(Check check) {
        check.part("a FAULT is at the first TOKEN that cannot stand there");
        fault(check, "eye 0;eye 0", 4);
        fault(check, "white 0 100", 6);
        fault(check, "white 1 100;rain", 8);
        fault(check, "stain 9 9 99", 6);
        fault(check, "eye 1;eye 2;eye 0;rain", 16);
        fault(check, "white eye", 6);
        fault(check, "white;", 5);
        fault(check, "stain 0;", 7);
    }

    private static void endTooSoon(Check check) {
        check.part("or at the end, if it comes too soon");
        for (String clause : CLAUSES) {
            for (int i = clause.indexOf(' '); i > 0; i = clause.indexOf(' ', i + 1)) {
                String begun = clause.substring(0, i);
                fault(check, begun, i);
                fault(check, begun + "  ", i + 2);
                fault(check, begun + ";eye 1", i);
                fault(check, begun + " ;", i + 1);
                fault(check, "eye 1;" + begun, i + 6);
                CloudLaundry x = Texts.told("white 9 9");
                check.due("summer() of '" + begun + "'", Texts.tell(x, begun), CloudLaundry.NOT);
            }
        }
        fault(check, "", 0);
        fault(check, "eye 1;", 6);
        fault(check, "eye 1;  ", 8);
    }

    private static void aTokenTooMany(Check check) {
        check.part("a TOKEN that cannot stand there: one too many");
        for (String clause : CLAUSES) {
            for (String token : List.of("0", "1", "99", "summer", "eye", ".")) {
                fault(check, clause + " " + token, clause.length() + 1);
            }
        }
    }
}
