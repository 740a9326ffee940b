import java.nio.file.Files;
import java.nio.file.Path;
import java.util.List;
import java.util.regex.Matcher;
import java.util.regex.Pattern;

/** Rules of ../shared/LANGUAGE.md that can be seen in the source's words. */
final class LanguageTest {
    private static final String[] FORBIDDEN = {
        "\\b(throw|throws|try|catch|finally|synchronized|assert|volatile|native|yield|var)\\b", "->", "::", "@",
        "\\bSystem\\.(?!arraycopy)", "\\bstatic\\s*\\{", "\\b\\w+Exact\\b", "\\b(equals|hashCode|toString)\\b",
        "^package\\b", "\\bimport\\s+(?!java\\.util\\.Arrays;)", "\\bpublic\\s+(?!final class CloudLaundry|CloudLaundry\\(|static final int|int )",
        "\\bprotected\\b", "new \\w+\\([^;]*\\)\\s*\\{"
    };
    private static final Pattern HEAD = Pattern.compile("^    (?:    )?(?:[a-z]+ )*[A-Za-z\\[\\]]+ ?\\w*\\((.*)\\) \\{$");
    private static final int MOST_LINES = 60;
    private static final int MOST_CLASSES = 12;

    private LanguageTest() {
    }

    static void run(Check check) throws Exception {
        check.part("language");
        String source = Files.readString(Path.of("src/main/java/CloudLaundry.java"));
        String code = source.replaceAll("(?s)/\\*.*?\\*/", "").replaceAll("//[^\n]*", "");
        for (String words : FORBIDDEN) {
            Matcher matcher = Pattern.compile(words, Pattern.MULTILINE).matcher(code);
            check.holds("no " + words, !matcher.find());
        }
        check.holds("signs 1 to 127 alone", source.chars().allMatch(sign -> sign >= 1 && sign <= 127));
        check.holds("no text is joined by +", !Pattern.compile("\"\\s*\\+|\\+\\s*\"").matcher(code).find());
        Matcher classes = Pattern.compile("\\b(class|enum|record|interface) \\w+").matcher(code);
        check.holds("some twelve classes", classes.results().count() <= MOST_CLASSES);
        methods(check, code.lines().toList());
    }

    private static void methods(Check check, List<String> lines) {
        int heads = 0;
        for (int i = 0; i < lines.size(); i++) {
            Matcher head = HEAD.matcher(lines.get(i));
            if (!head.matches()) {
                continue;
            }
            heads++;
            String indent = lines.get(i).substring(0, lines.get(i).length() - lines.get(i).stripLeading().length());
            int end = i;
            while (end < lines.size() && !lines.get(end).equals(indent + "}")) {
                end++;
            }
            check.holds("short: " + lines.get(i).strip(), end - i < MOST_LINES);
            check.holds("seven parameters: " + lines.get(i).strip(), head.group(1).split(",").length <= 7);
        }
        check.holds("methods are found", heads > 80);
    }
}
