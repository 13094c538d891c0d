import java.io.IOException;
import java.nio.file.Files;
import java.nio.file.Path;
import java.util.List;
import java.util.regex.Matcher;
import java.util.regex.Pattern;

/** Those rules of LANGUAGE.md that the source shows line by line; run from the project's folder. */
public final class RulesTest {
    private static final Path SOURCE = Path.of("src", "main", "java", "CoverWays.java");
    private static final Pattern FORBIDDEN = Pattern.compile("\\b(import|package|try|catch|finally|synchronized|assert"
            + "|instanceof|var|record|Math|Double|Float|System|Object|Exact|hashCode|toString|getClass)\\b|->|::");
    private static final Pattern THROWN = Pattern.compile("throw (?!new (IllegalStateException|"
            + "IllegalArgumentException|IndexOutOfBoundsException)\\(\"[^\"]*\"\\);)");
    private static final Pattern LIBRARY = Pattern.compile("\\bInteger\\.(?!bitCount\\()");
    private static final Pattern METHOD = Pattern.compile(" +(public|private|static|int|boolean|long|void|double).*\\) .*\\{");

    public static void main(String[] args) throws IOException {
        List<String> lines = Files.readAllLines(SOURCE);
        int opened = -1;
        String closing = "";
        for (int i = 0; i < lines.size(); i++) {
            String line = lines.get(i);
            String code = line.strip().startsWith("*") || line.strip().startsWith("//") ? "" : line;
            code = code.replaceAll("//.*", "");
            keeps(FORBIDDEN, code.replaceAll("\"[^\"]*\"", "\"\""), i);
            keeps(THROWN, code, i);
            keeps(LIBRARY, code, i);
            Due.tell(line.chars().allMatch(sign -> sign > 0 && sign < 128), "line " + (i + 1) + " has another sign");
            if (opened < 0 && METHOD.matcher(code).matches()) {
                opened = i;
                closing = line.substring(0, line.length() - line.stripLeading().length()) + "}";
            } else if (opened >= 0 && line.equals(closing)) {
                Due.tell(i - opened < 60, "the method of line " + (opened + 1) + " is too long");
                opened = -1;
            }
        }
        Due.close("RulesTest");
    }

    private static void keeps(Pattern forbidden, String code, int line) {
        Matcher found = forbidden.matcher(code);
        boolean has = found.find();
        Due.tell(!has, "line " + (line + 1) + ": " + code.strip());
    }
}
