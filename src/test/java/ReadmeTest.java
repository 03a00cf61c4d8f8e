import java.io.ByteArrayOutputStream;
import java.io.IOException;
import java.io.PrintStream;
import java.nio.file.Files;
import java.nio.file.Path;
import java.util.ArrayList;
import java.util.List;
import java.util.regex.Matcher;
import java.util.regex.Pattern;

/** The examples of README.md: they stand here word for word, and print what README.md says. */
public final class ReadmeTest {
    private static final Path SOURCE = Path.of("src", "test", "java", "ReadmeTest.java");

    public static void main(String[] args) throws IOException {
        String readme = Files.readString(Path.of("README.md"));
        String source = plain(Files.readString(SOURCE));
        List<String> examples = blocks(readme, "java");
        Check.due("examples", examples.size(), 2);
        for (String example : examples) {
            Check.due("the example stands in this test: " + example, source.contains(plain(example)), true);
        }
        List<String> outputs = List.of(printed(ReadmeTest::twoRobots), printed(ReadmeTest::threeRobots));
        Check.due("what the examples print", outputs, blocks(readme, "text"));
        tellsEachCall(readme);
        Check.finish();
    }

    private static void twoRobots() {
        JointPlans plans = new JointPlans(2);      // robots 0 and 1
        plans.grid(3, 2);                          // 3 cells wide, 2 high; no walls, starts and ends yet
        plans.wall(0, 1, true);
        plans.start(0, 0, 0);                      // robot 0 goes from the left to the right
        plans.end(0, 2, 0);
        plans.start(1, 1, 0);                      // robot 1 is in its way, and wants to be there in the end
        plans.end(1, 1, 0);
        int cost = plans.solve(0);
        if (cost < 0) {
            System.out.println("no plan");
        } else {
            System.out.println("cost " + cost + ", exact " + plans.exact());
            for (int t = 0; t <= plans.last(); t++) {
                System.out.println(t + ": robot 0 at " + plans.at(0, t, 0) + " " + plans.at(0, t, 1)
                    + ", robot 1 at " + plans.at(1, t, 0) + " " + plans.at(1, t, 1));
            }
            System.out.println("alone " + plans.bound() + ", share " + plans.share());
        }
    }

    private static void threeRobots() {
        JointPlans three = new JointPlans(3);
        three.grid(4, 2);
        three.wall(0, 1, true);
        three.wall(3, 1, true);
        three.start(0, 2, 1);
        three.end(0, 0, 0);
        three.start(1, 1, 0);
        three.end(1, 3, 0);
        three.start(2, 3, 0);
        three.end(2, 2, 1);
        System.out.println("without a restart " + three.solve(0));
        three.seed(1);
        System.out.println("with five " + three.solve(5));
    }

    private static void tellsEachCall(String readme) {
        String[] calls = {"new JointPlans(robots)", "grid(width, height)", "wall(x, y, on)", "start(robot, x, y)",
            "end(robot, x, y)", "swap(false)", "seed(x)", "solve(restarts)", "exact()", "at(robot, t, axis)", "last()",
            "alone(robot)", "bound()", "share()", "count(4)", ".ci/run"};
        for (String call : calls) {
            Check.due("README.md tells of " + call, readme.contains(call), true);
        }
    }

    /** The texts between fences that bear a name. */
    private static List<String> blocks(String readme, String name) {
        Matcher matcher = Pattern.compile("(?ms)^```" + name + "\\n(.*?)^```$").matcher(readme);
        List<String> all = new ArrayList<>();
        while (matcher.find()) {
            all.add(matcher.group(1));
        }
        return all;
    }

    /** A text without the white space that differs by where it stands. */
    private static String plain(String text) {
        return text.replaceAll("\\s+", " ").trim();
    }

    private static String printed(Runnable example) {
        PrintStream before = System.out;
        ByteArrayOutputStream bytes = new ByteArrayOutputStream();
        System.setOut(new PrintStream(bytes, true));
        example.run();
        System.setOut(before);
        return bytes.toString().replace(System.lineSeparator(), "\n");
    }
}
