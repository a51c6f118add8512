import java.io.File;
import java.io.IOException;
import java.lang.reflect.Method;
import java.lang.reflect.Modifier;
import java.nio.file.Files;
import java.nio.file.Path;
import java.util.ArrayList;
import java.util.List;

/** What README.md says of the class and of its tests holds; it is run from the directory of the project. */
public final class ReadmeTest {
    private static final String NEW_OBJECT = "NestedFrames frames = new NestedFrames();";

    private final String text;
    private final List<String> exampleCalls;
    private int next = 0;

    private ReadmeTest(String text) {
        this.text = text;
        this.exampleCalls = exampleCallsIn(text);
    }

    public static void main(String[] arguments) throws IOException {
        ReadmeTest test = new ReadmeTest(Files.readString(Path.of("README.md")));
        Check.sentence("the example", test::example);
        Check.sentence("the calls", test::namesEachCall);
        Check.sentence("the tests", test::namesEachTest);
        Check.end("ReadmeTest");
    }

    private static List<String> exampleCallsIn(String text) {
        List<String> calls = new ArrayList<>();
        int start = text.indexOf(NEW_OBJECT);
        int end = text.indexOf("```", Math.max(0, start));
        if (start >= 0 && end >= 0) {
            text.substring(start + NEW_OBJECT.length(), end).lines().filter(line -> !line.isBlank()).forEach(calls::add);
        }
        return calls;
    }

    private void example() {
        CountedFrames frames = new CountedFrames();
        says("int first = frames.come(0, 0, 9, 9);", frames.come(0, 0, 9, 9));
        says("int second = frames.come(20, 0, 29, 9);", frames.come(20, 0, 29, 9));
        says("frames.overlaps(5, 5, 24, 8);", frames.overlaps(5, 5, 24, 8));
        says("frames.nearest(15, 3);", frames.nearest(15, 3));
        says("frames.count(5);", frames.count(5));
        says("frames.grows(30, 0, 39, 9);", frames.grows(30, 0, 39, 9));
        says("frames.splits(30, 0, 39, 9);", frames.splits(30, 0, 39, 9));
        says("frames.go(first);", frames.go(0));
        says("frames.told(second, 5);", frames.told(1, 5));
        says("frames.mean();", frames.mean());
        Check.equal("calls of the example", exampleCalls.size(), next);
    }

    /** The next line of the example is this call, and its comment starts with this answer. */
    private void says(String call, Object answer) {
        String line = next < exampleCalls.size() ? exampleCalls.get(next) : "";
        next++;
        String[] callAndComment = line.split(" +// ", 2);
        Check.equal("the example's call " + next, callAndComment[0], call);
        String comment = callAndComment.length < 2 ? "" : callAndComment[1];
        Check.equal(call + " in the example", comment.split("[,:]? |$", 2)[0], String.valueOf(answer));
    }

    private void namesEachCall() {
        for (Method method : NestedFrames.class.getDeclaredMethods()) {
            if (Modifier.isPublic(method.getModifiers())) {
                Check.isTrue(method.getName() + " has no row", text.contains("| `" + method.getName() + "("));
            }
        }
    }

    private void namesEachTest() {
        Check.isTrue(".ci/run is not named", text.contains("\n.ci/run\n"));
        for (String name : new File("src/test/java").list()) {
            if (name.endsWith("Test.java")) {
                String test = name.substring(0, name.length() - ".java".length());
                Check.isTrue(test + " is not named", text.contains("\n- `" + test + "`: "));
            }
        }
    }
}
