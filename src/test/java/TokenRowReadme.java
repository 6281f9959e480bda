import java.nio.file.Files;
import java.nio.file.Path;
import java.util.Arrays;
import java.util.TreeSet;
import java.util.regex.Matcher;
import java.util.regex.Pattern;

/** Makes the calls of README.md's example and compares each answer with the one that is told there. */
public final class TokenRowReadme {
    private static final Pattern EXAMPLE = Pattern.compile("```java\\n(.*?)```", Pattern.DOTALL);
    private static final Pattern CALL =
        Pattern.compile("row\\.(\\w+)\\(([^()]*)\\);\\s+// (true|false|NONE|-?\\d+)(:.*)?");
    private static final String NEW_OBJECT = "TokenRow row = new TokenRow();";

    private static final TreeSet<String> used = new TreeSet<>();
    private static int wrong = 0;

    public static void main(String[] args) throws Exception {
        Matcher example = EXAMPLE.matcher(Files.readString(Path.of("README.md")));
        due("that README.md has an example", String.valueOf(example.find()), "true");
        if (wrong == 0) {
            follow(example.group(1).split("\n"));
        }
        due("the methods that the example uses", used.toString(),
            "[end, feed, kind, level, line, place, read, size, textAt, value]");
        System.out.println(wrong == 0 ? "all answers are as due" : wrong + " answers are not as due");
        if (wrong != 0) {
            System.exit(1);
        }
    }

    private static void due(String what, String got, String want) {
        if (!got.equals(want)) {
            wrong++;
            System.out.println(what + ": answered " + got + ", due is " + want);
        }
    }

    private static void follow(String[] lines) throws Exception {
        TokenRow row = new TokenRow();
        due("the example's first line", lines[0], NEW_OBJECT);
        for (String line : Arrays.copyOfRange(lines, 1, lines.length)) {
            Matcher call = CALL.matcher(line);
            if (call.matches()) {
                used.add(call.group(1));
                due(line, answer(row, call.group(1), call.group(2)), call.group(3).replace("NONE", "-1"));
            } else {
                // A line that is no call and no remark would be told without being tested.
                due(line, String.valueOf(line.isEmpty() || line.startsWith("// ")), "true");
            }
        }
    }

    private static String answer(TokenRow row, String name, String numbers) throws Exception {
        Object[] given = numbers.isEmpty() ? new Object[0]
            : Arrays.stream(numbers.split(", ")).map(n -> (Object) Long.decode(n).intValue()).toArray();
        Class<?>[] types = new Class<?>[given.length];
        Arrays.fill(types, int.class);
        return String.valueOf(TokenRow.class.getMethod(name, types).invoke(row, given));
    }
}
