import java.io.IOException;
import java.lang.reflect.Method;
import java.lang.reflect.Modifier;
import java.nio.file.DirectoryStream;
import java.nio.file.Files;
import java.nio.file.Path;
import java.util.HashMap;
import java.util.Map;
import java.util.regex.Matcher;
import java.util.regex.Pattern;

/** README.md says what is so: its example answers as it tells, and it names each call and each test program. */
public final class ReadmeTest {
    private static final Path PAGE = Path.of("README.md");
    private static final Path TESTS = Path.of("src/test/java");
    private static final Pattern NEW = Pattern.compile("Monobuild build = new Monobuild\\(\\);");
    private static final Pattern TYPED =
            Pattern.compile("for \\(char c : \"(.*)\"\\.toCharArray\\(\\)\\) build\\.type\\(c\\);");
    /** A call, the variable for its answer, and behind "//" the answer, if the line has these. */
    private static final Pattern CALL =
            Pattern.compile("(?:int (\\w+) = )?build\\.(\\w+)\\((.*)\\);(?:\\s*// (-?\\d+)(?:: .*)?)?");

    private final Monobuild build = new Monobuild();
    private final Map<String, Integer> variables = new HashMap<>();
    private int answers;

    private ReadmeTest() {
    }

    public static void main(String[] args) throws Exception {
        String page = Files.readString(PAGE);
        new ReadmeTest().followExample(page);
        namesEachCall(page);
        namesEachTest(page);
        Check.finish("ReadmeTest");
    }

    private void followExample(String page) throws Exception {
        String fence = "```java\n";
        int start = page.indexOf(fence) + fence.length();
        for (String line : page.substring(start, page.indexOf("```", start)).split("\n")) {
            follow(line);
        }
        Check.same("the example tells answers", answers > 15, true);
    }

    private void follow(String line) throws Exception {
        Matcher typed = TYPED.matcher(line);
        Matcher call = CALL.matcher(line);
        if (typed.matches()) {
            for (char c : typed.group(1).toCharArray()) {
                build.type(c);
            }
        } else if (call.matches()) {
            followCall(line, call);
        } else {
            boolean known = line.isEmpty() || NEW.matcher(line).matches();
            Check.same("the example's line is understood: " + line, known, true);
        }
    }

    private void followCall(String line, Matcher call) throws Exception {
        Object got = answer(call.group(2), call.group(3));
        if (call.group(1) != null) {
            variables.put(call.group(1), (Integer) got);
        }
        if (call.group(4) != null) {
            answers++;
            Check.same("README: " + line, String.valueOf(got), call.group(4));
        }
    }

    private Object answer(String name, String arguments) throws Exception {
        String[] words = arguments.isEmpty() ? new String[0] : arguments.split(", ");
        Object[] values = new Object[words.length];
        Class<?>[] types = new Class<?>[words.length];
        for (int i = 0; i < words.length; i++) {
            String word = words[i];
            values[i] = variables.containsKey(word) ? variables.get(word) : Integer.valueOf(word);
            types[i] = int.class;
        }
        return Monobuild.class.getMethod(name, types).invoke(build, values);
    }

    private static void namesEachCall(String page) {
        for (Method method : Monobuild.class.getDeclaredMethods()) {
            if (Modifier.isPublic(method.getModifiers())) {
                Check.same("the page names " + method.getName(), page.contains("`" + method.getName() + "`"), true);
            }
        }
    }

    private static void namesEachTest(String page) throws IOException {
        try (DirectoryStream<Path> programs = Files.newDirectoryStream(TESTS, "*Test.java")) {
            for (Path program : programs) {
                String name = program.getFileName().toString().replace(".java", "");
                Check.same("the page names " + name, page.contains("| `" + name + "` |"), true);
            }
        }
    }
}
