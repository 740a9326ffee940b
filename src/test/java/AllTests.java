/** Runs every test of the project; ends with exit code 1 if an answer is not as due. */
public final class AllTests {
    private AllTests() {
    }

    public static void main(String[] args) throws Exception {
        Check check = new Check();
        FaceTest.run(check);
        LanguageTest.run(check);
        ReadmeTest.run(check);
        TextTest.run(check);
        CloudsTest.run(check);
        DoneTest.run(check);
        UndoTest.run(check);
        ForetoldTest.run(check);
        SeenTest.run(check);
        LinesTest.run(check);
        CountTest.run(check);
        BoundsTest.run(check);
        RefusedTest.run(check);
        TextEdgesTest.run(check);
        HourEdgesTest.run(check);
        UndoEdgesTest.run(check);
        ForetoldEdgesTest.run(check);
        LineEdgesTest.run(check);
        WildTest.run(check);
        RoomTest.run(check);
        ModelTest.run(check);
        System.out.println(check.right() + " answers as due, " + check.wrong() + " not");
        if (check.wrong() != 0) {
            System.exit(1);
        }
    }
}
