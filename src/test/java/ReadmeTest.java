import java.lang.reflect.Method;
import java.nio.file.Files;
import java.nio.file.Path;
import java.util.List;
import java.util.regex.Matcher;
import java.util.regex.Pattern;
import java.util.stream.Collectors;
import java.util.stream.Stream;

/** README.md: its example answers what it says, and it names every test. */
public final class ReadmeTest {
    private static final Path README = Path.of("README.md");
    private static final Path TESTS = Path.of("src/test/java");
    private static final String BEGIN = "```java\n";
    private static final String END = "```\n";
    private static final Pattern CALL = Pattern.compile("x\\.(\\w+)\\(([^)]*)\\); +// (-?\\d+|true|false)\\b.*");
    private static final Due due = new Due();

    public static void main(String[] args) throws Exception {
        String text = Files.readString(README);
        example(text);
        namesAllTests(text);
        due.end();
    }

    private static void example(String text) throws Exception {
        due.part("the example of README.md");
        int begin = text.indexOf(BEGIN);
        int end = text.indexOf(END, begin + BEGIN.length());
        due.yes("there is one", begin >= 0 && end >= 0);
        if (begin < 0 || end < 0) {
            return;
        }
        List<String> lines = text.substring(begin + BEGIN.length(), end).lines().collect(Collectors.toList());
        due.yes("it begins with a new object", lines.get(0).equals("RaftRivers x = new RaftRivers();"));
        RaftRivers x = new RaftRivers();
        for (String line : lines.subList(1, lines.size())) {
            Matcher call = CALL.matcher(line);
            if (call.matches()) {
                due.is(line, answer(x, call.group(1), call.group(2)), number(call.group(3)));
            } else {
                due.yes("a call with its answer: " + line, line.isBlank());
            }
        }
    }

    private static long answer(RaftRivers x, String name, String told) throws Exception {
        String[] words = told.isEmpty() ? new String[0] : told.split(", ");
        for (Method method : RaftRivers.class.getMethods()) {
            if (method.getName().equals(name) && method.getParameterCount() == words.length) {
                return number(String.valueOf(method.invoke(x, values(method, words))));
            }
        }
        due.yes("there is a call " + name + "(" + told + ")", false);
        return RaftRivers.NONE;
    }

    private static Object[] values(Method method, String[] words) {
        Object[] values = new Object[words.length];
        for (int i = 0; i < words.length; i++) {
            boolean asks = method.getParameterTypes()[i] == boolean.class;
            values[i] = asks ? (Object) Boolean.valueOf(words[i]) : (Object) Integer.valueOf(words[i]);
        }
        return values;
    }

    private static long number(String answer) {
        return answer.equals("true") ? 1 : answer.equals("false") ? 0 : Long.parseLong(answer);
    }

    private static void namesAllTests(String text) throws Exception {
        due.part("README.md says how the tests are run");
        due.yes(".ci/run", text.contains(".ci/run"));
        due.yes("../shared/tests", text.contains("../shared/tests"));
        try (Stream<Path> files = Files.list(TESTS)) {
            for (Path file : files.sorted().collect(Collectors.toList())) {
                String name = file.getFileName().toString().replace(".java", "");
                due.yes(name + " is named", !name.endsWith("Test") || text.contains("`" + name + "`"));
            }
        }
    }
}
