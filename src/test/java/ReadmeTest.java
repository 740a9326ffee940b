import java.nio.file.Files;
import java.nio.file.Path;

/** README.md's example answers what README.md says, and README.md names every call of the face. */
final class ReadmeTest {
    private ReadmeTest() {
    }

    static void run(Check check) throws Exception {
        check.part("README.md");
        String readme = Files.readString(Path.of("README.md"));
        everyCallIsNamed(check, readme);
        example(check, readme);
    }

    private static void everyCallIsNamed(Check check, String readme) {
        for (var method : CloudLaundry.class.getMethods()) {
            if (method.getDeclaringClass() == CloudLaundry.class) {
                check.holds(method.getName() + " is named", readme.contains("`" + method.getName() + "`"));
            }
        }
    }

    private static void example(Check check, String readme) {
        String text = "white 20 6;stain 0 0 5;washer 2;soap 3";
        check.holds("its text", readme.contains("\"" + text + "\""));
        CloudLaundry laundry = new CloudLaundry();
        Texts.write(laundry, text);
        check.due("laundry.fault()", laundry.fault(), CloudLaundry.NONE);
        check.due("laundry.summer()", laundry.summer(), 4);
        check.due("laundry.plan(0)", laundry.plan(0), 0);
        check.due("laundry.wash(0, 0)", laundry.wash(0, 0), 5);
        check.due("laundry.hour(3)", laundry.hour(3), 3);
        check.due("laundry.cloud(0, 6)", laundry.cloud(0, 6), 1);
    }
}
