/** Promise 35: count. */
final class CountTest {
    private CountTest() {
    }

    static void run(Check check) {
        check.part("promise 35");
        CloudLaundry x = Texts.told("white 20 6;fog 9 4;white 1 4;bride 9 9;stain 0 0 5;washer 2;washer 1;washer 1;soap 7;eye 33");
        x.wash(0, 0);
        x.wash(1, 2);
        x.wash(2, 1);
        x.hang(2);
        x.hour(2);
        x.send(1);
        x.hour(1);
        x.hang(0);
        x.seen(0, 1, 1);
        x.seen(0, 1, 2);
        x.line(0, 0, 1);
        x.line(2, 0, 1);
        Texts.write(x, "eye");
        int[] want = {4, 3, 7, 3, 8, 1, 2, 4, 2, 2, 8, 3, 33, 64 + 64 + 32};
        for (int what = 0; what < want.length; what++) {
            check.due("count(" + what + ")", x.count(what), want[what]);
        }
        check.due("count(14)", x.count(14), CloudLaundry.OUTSIDE);
        check.due("count(-1)", x.count(-1), CloudLaundry.OUTSIDE);
    }
}
