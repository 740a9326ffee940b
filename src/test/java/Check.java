/** Counts answers that are as due, and prints those that are not. */
final class Check {
    private String part = "";
    private int right;
    private int wrong;

    /** Names the promise (or the law) that the rows behind it are about. */
    void part(String name) {
        part = name;
    }

    void due(String call, long got, long want) {
        if (got == want) {
            right++;
        } else {
            wrong++;
            System.out.println(part + ": " + call + " answered " + got + ", due is " + want);
        }
    }

    void holds(String what, boolean fact) {
        due(what, fact ? 1 : 0, 1);
    }

    int right() {
        return right;
    }

    int wrong() {
        return wrong;
    }
}
