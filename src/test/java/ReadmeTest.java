import java.io.IOException;
import java.lang.reflect.Method;
import java.lang.reflect.Modifier;
import java.nio.file.Files;
import java.nio.file.Path;
import java.util.Arrays;
import java.util.List;
import java.util.regex.Matcher;
import java.util.regex.Pattern;

/** What README.md says of the class is so: its examples, the calls and the tests that it names. */
public final class ReadmeTest {
    private static final Due DUE = new Due("ReadmeTest");
    private static final Pattern EXAMPLE = Pattern.compile("```java\n(.*?)```", Pattern.DOTALL);
    private static final String NEW_OBJECT = "LabelsOfLines x = new LabelsOfLines();";
    private static final Pattern CALL = Pattern.compile("x\\.(\\w+)\\((.*)\\);\\s+// (-?\\d+)(:.*)?");

    public static void main(String[] args) throws IOException {
        String readme = Files.readString(Path.of("README.md"));
        examples(readme);
        namesEveryCall(readme);
        namesEveryTest(readme);
        DUE.end();
    }

    private static void examples(String readme) {
        Matcher example = EXAMPLE.matcher(readme);
        int many = 0;
        while (example.find()) {
            many++;
            answersAsItSays(example.group(1).split("\n"));
        }
        DUE.is("whether there are examples", many > 0 ? 1 : 0, 1);
    }

    private static void answersAsItSays(String[] rows) {
        DUE.is("an object is made in: " + rows[0], Due.same(rows[0], NEW_OBJECT), 1);
        Asked x = new Asked();
        for (String row : Arrays.copyOfRange(rows, 1, rows.length)) {
            Matcher call = CALL.matcher(row);
            if (call.matches()) {
                long got = x.ask(call.group(1), numbers(call.group(2)));
                DUE.is(row, got, Long.parseLong(call.group(3)));
            } else {
                DUE.is("a call with its answer is: " + row, 0, 1);
            }
        }
    }

    private static int[] numbers(String arguments) {
        if (arguments.isEmpty()) {
            return new int[0];
        }
        return Arrays.stream(arguments.split(", ")).mapToInt(ReadmeTest::number).toArray();
    }

    private static int number(String argument) {
        return argument.startsWith("'") ? argument.charAt(1) : Integer.parseInt(argument);
    }

    private static void namesEveryCall(String readme) {
        for (Method call : LabelsOfLines.class.getDeclaredMethods()) {
            if (Modifier.isPublic(call.getModifiers())) {
                DUE.is("names " + call.getName(), readme.contains("`" + call.getName() + "(") ? 1 : 0, 1);
            }
        }
    }

    private static void namesEveryTest(String readme) throws IOException {
        try (var files = Files.list(Path.of("src/test/java"))) {
            List<String> tests = files.map(file -> file.getFileName().toString())
                .filter(name -> name.endsWith("Test.java")).map(name -> name.replace(".java", "")).toList();
            for (String test : tests) {
                DUE.is("names " + test, readme.contains("`" + test + "`") ? 1 : 0, 1);
            }
        }
    }
}
