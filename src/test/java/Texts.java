/** Ways to tell a laundry its text. */
final class Texts {
    private Texts() {
    }

    static void write(CloudLaundry x, String text) {
        for (int i = 0; i < text.length(); i++) {
            x.write(text.charAt(i));
        }
    }

    /** Writes the text and lets it be done. */
    static int tell(CloudLaundry x, String text) {
        write(x, text);
        return x.summer();
    }

    static CloudLaundry told(String text) {
        CloudLaundry x = new CloudLaundry();
        if (tell(x, text) < 1) {
            throw new IllegalStateException("the test's own text has a fault: " + text);
        }
        return x;
    }

    /** The place of the fault of a text, behind what was told ahead; the text is erased again. */
    static int fault(CloudLaundry x, String text) {
        x.erase();
        write(x, text);
        int place = x.fault();
        x.erase();
        return place;
    }
}
