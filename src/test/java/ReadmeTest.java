import java.io.IOException;
import java.lang.reflect.InvocationTargetException;
import java.lang.reflect.Method;
import java.lang.reflect.Modifier;
import java.nio.file.Files;
import java.nio.file.Path;
import java.util.List;
import java.util.regex.Matcher;
import java.util.regex.Pattern;
import java.util.stream.Collectors;
import java.util.stream.Stream;

/** README.md: its calls answer what it says, and it names all; run from the project's folder. */
public final class ReadmeTest {
    private static final Pattern CALL = Pattern.compile("x\\.(\\w+)\\((-?\\d+)?(?:, (-?\\d+))?\\); +// (.*)");
    private static final Pattern TYPED = Pattern.compile("for \\(char sign : \"([^\"]*)\"\\.toCharArray\\(\\)\\) \\{");
    private static final Pattern THROWS = Pattern.compile("throws (\\w+)");
    private static final Pattern SHARE = Pattern.compile("(\\d+\\.\\d) / (\\d+\\.\\d)");
    private static final Pattern NUMBER = Pattern.compile("(-?\\d+)\\b.*");

    private final CoverWays x = new CoverWays();

    public static void main(String[] args) throws Exception {
        List<String> lines = Files.readAllLines(Path.of("README.md"));
        new ReadmeTest().readExample(lines);
        namesAll(String.join("\n", lines));
        Due.close("ReadmeTest");
    }

    private void readExample(List<String> lines) throws ReflectiveOperationException {
        int first = lines.indexOf("```java") + 1;
        int end = first + lines.subList(first, lines.size()).indexOf("```");
        Due.tell(first > 0 && end > first, "there is no example");
        for (String line : lines.subList(first, end)) {
            Matcher call = CALL.matcher(line);
            Matcher typed = TYPED.matcher(line);
            if (call.matches()) {
                makeCall(line, call);
            } else if (typed.matches()) {
                Due.type(x, typed.group(1));
            } else {
                Due.tell(line.equals("CoverWays x = new CoverWays();") || line.equals("    x.append(sign);")
                        || line.equals("}"), "can't read the line " + line);
            }
        }
    }

    private void makeCall(String line, Matcher call) throws ReflectiveOperationException {
        Class<?>[] types = new Class<?>[call.group(2) == null ? 0 : call.group(3) == null ? 1 : 2];
        Object[] numbers = new Object[types.length];
        for (int i = 0; i < types.length; i++) {
            types[i] = int.class;
            numbers[i] = Integer.valueOf(call.group(2 + i));
        }
        Method method = CoverWays.class.getMethod(call.group(1), types);
        Matcher thrown = THROWS.matcher(call.group(4));
        try {
            Object answer = method.invoke(x, numbers);
            Due.tell(!thrown.matches(), line + ": it answered " + answer);
            Due.tell(isTold(answer, call.group(4)), line + ": it answered " + answer);
        } catch (InvocationTargetException e) {
            String name = e.getCause().getClass().getSimpleName();
            Due.tell(thrown.matches() && thrown.group(1).equals(name), line + ": it threw " + name);
        }
    }

    private static boolean isTold(Object answer, String remark) {
        Matcher share = SHARE.matcher(remark);
        if (share.matches()) {
            return answer.equals(Double.parseDouble(share.group(1)) / Double.parseDouble(share.group(2)));
        }
        Matcher number = NUMBER.matcher(remark);
        return number.matches() && number.group(1).equals(answer.toString());
    }

    private static void namesAll(String readme) throws IOException {
        for (Method method : CoverWays.class.getDeclaredMethods()) {
            String name = "`" + method.getName() + "`";
            Due.tell(!Modifier.isPublic(method.getModifiers()) || readme.contains(name), name + " is not named");
        }
        List<String> tests;
        try (Stream<Path> files = Files.list(Path.of("src", "test", "java"))) {
            tests = files.map(file -> file.getFileName().toString().replace(".java", ""))
                    .filter(name -> name.endsWith("Test")).collect(Collectors.toList());
        }
        for (String test : tests) {
            Due.tell(readme.contains("| `" + test + "` |"), test + " is not named");
        }
    }
}
