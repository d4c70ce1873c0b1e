import java.io.IOException;
import java.lang.reflect.Method;
import java.nio.file.Files;
import java.nio.file.Path;
import java.util.ArrayList;
import java.util.List;
import java.util.TreeSet;
import java.util.regex.Matcher;
import java.util.regex.Pattern;

/** README.md: its example answers what it says, and it names every call and every test. */
public final class ReadmeTest {
    private static final Pattern CALL = Pattern.compile("^office\\.(\\w+)\\(([^)]*)\\); +// (-?\\d+)\\b");
    private static final Pattern TOLD = Pattern.compile("\"(lands [^\"]*)\" told by feed\\(\\.\\.\\) and end\\((\\d+)\\)");

    public static void main(String[] args) throws IOException, ReflectiveOperationException {
        String readme = Files.readString(Path.of("README.md"));
        example(readme);
        namesCalls(readme);
        namesTests(readme);
        Check.end("ReadmeTest");
    }

    /** Each line of the example that says an answer is made as a call, in their order. */
    private static void example(String readme) throws ReflectiveOperationException {
        PermitOffice office = null;
        int made = 0;
        for (String line : readme.split("\n")) {
            Matcher told = TOLD.matcher(line);
            if (told.find()) {
                Check.same("its length", told.group(1).length(), Integer.parseInt(told.group(2)));
                office = new PermitOffice();
                Check.tape(office, told.group(1));
            }
            Matcher call = CALL.matcher(line);
            if (office != null && call.find()) {
                made++;
                Check.same(line, Long.parseLong(call.group(3)), answer(office, call.group(1), call.group(2)));
            }
        }
        Check.yes("calls are made: " + made, made >= 10);
    }

    private static long answer(PermitOffice office, String name, String numbers) throws ReflectiveOperationException {
        List<Object> given = new ArrayList<>();
        for (String number : numbers.split(", *")) {
            if (!number.isEmpty()) {
                given.add(Integer.valueOf(number));
            }
        }
        Class<?>[] types = new Class<?>[given.size()];
        java.util.Arrays.fill(types, int.class);
        Method method = PermitOffice.class.getMethod(name, types);
        Object answer = method.invoke(office, given.toArray());
        return answer instanceof Boolean yes ? yes ? 1 : 0 : ((Integer) answer).longValue();
    }

    private static void namesCalls(String readme) {
        for (Method method : PermitOffice.class.getDeclaredMethods()) {
            StringBuilder start = new StringBuilder("| `").append(method.getName()).append('(');
            Check.yes("a row for " + method.getName(), readme.contains(start));
        }
    }

    private static void namesTests(String readme) throws IOException {
        TreeSet<String> tests = new TreeSet<>();
        try (var files = Files.list(Path.of("src/test/java"))) {
            files.map(file -> file.getFileName().toString()).filter(name -> name.endsWith("Test.java"))
                    .forEach(name -> tests.add(name.replace(".java", "")));
        }
        for (String test : tests) {
            Check.yes("a row for " + test, readme.contains("| `" + test + "` |"));
        }
    }
}
