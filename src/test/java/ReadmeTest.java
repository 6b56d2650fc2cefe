import java.io.IOException;
import java.lang.reflect.Method;
import java.lang.reflect.Modifier;
import java.nio.file.Files;
import java.nio.file.Path;
import java.util.ArrayList;
import java.util.List;
import java.util.regex.Pattern;

/** README.md: its example stands here line by line and answers what it says, and its tables name every call. */
public final class ReadmeTest {
    private static final Check check = new Check("ReadmeTest");

    public static void main(String[] args) throws IOException {
        example();
        List<String> readme = Files.readAllLines(Path.of("README.md"));
        sameExample(readme, Files.readAllLines(Path.of("src/test/java/ReadmeTest.java")));
        namesEveryCall(String.join("\n", readme));
        check.end();
    }

    private static void example() {
        // README: from here
        PowerPlot plot = new PowerPlot();
        int left = plot.site(10, 20, 0);                // 0: sites are numbered as they come
        int right = plot.site(30, 20, 5);               // 1
        int points = plot.share(left);                  // 820 of the 1681 points
        int lastInRow = plot.inRow(left, 7, true);      // 19: of the row y = 7 it owns x = 0 to 19
        long top = 0;
        long bottom = 1;
        if (plot.hasBorder(left, right)) {
            top = plot.ofEnd(left, right, 0, 0);        // 159
            bottom = plot.ofEnd(left, right, 0, 1);     // 8: the x of the first end is 159 by 8
        }
        plot.capacity(left, 700);
        plot.capacity(right, 981);
        int ahead = plot.disorder();                    // 240
        int promised = plot.would(40, 20);              // 76, and nothing has changed
        int times = plot.balance(40, 20);               // 1: the second time was taken back
        int weight = plot.ofSite(left, 2);              // -40
        int third = plot.site(20, 20, -300);            // 2
        boolean isHidden = plot.isHidden(third);        // true
        int cause = plot.why(left, third);              // 1: the site right leaves nothing of that border
        // README: up to here
        check.due("left", left, 0);
        check.due("right", right, 1);
        check.due("points", points, 820);
        check.due("lastInRow", lastInRow, 19);
        check.due("top", top, 159);
        check.due("bottom", bottom, 8);
        check.due("ahead", ahead, 240);
        check.due("promised", promised, 76);
        check.due("times", times, 1);
        check.due("weight", weight, -40);
        check.due("third", third, 2);
        check.due("isHidden", isHidden, true);
        check.due("cause", cause, right);
        check.due("the disorder behind it", plot.disorder(), promised);
    }

    private static void sameExample(List<String> readme, List<String> own) {
        List<String> told = between(readme, "```java", "```");
        List<String> run = between(own, "// README: from here", "// README: up to here");
        check.due("README.md's example is not empty", told.size() > 1, true);
        check.due("README.md's example", String.join("\n", told), String.join("\n", run));
    }

    /** Without the blanks ahead of each line. */
    private static List<String> between(List<String> lines, String from, String to) {
        List<String> found = new ArrayList<>();
        boolean isInside = false;
        for (String line : lines) {
            isInside = isInside && !line.strip().equals(to);
            if (isInside) {
                found.add(line.strip());
            }
            isInside = isInside || line.strip().equals(from);
        }
        return found;
    }

    /** With as many arguments as it has. */
    private static void namesEveryCall(String readme) {
        for (Method method : PowerPlot.class.getDeclaredMethods()) {
            if (Modifier.isPublic(method.getModifiers())) {
                String argument = "[a-zA-Z]+";
                String arguments = method.getParameterCount() == 0 ? ""
                    : argument + (", " + argument).repeat(method.getParameterCount() - 1);
                Pattern row = Pattern.compile("(?m)^\\| .*`" + method.getName() + "\\(" + arguments + "\\)`.* \\|$");
                check.due("a table of README.md tells of " + method.getName(), row.matcher(readme).find(), true);
            }
        }
    }
}
