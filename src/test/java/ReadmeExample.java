import java.io.IOException;
import java.lang.reflect.Method;
import java.lang.reflect.Modifier;
import java.nio.file.Files;
import java.nio.file.Path;
import java.util.ArrayList;
import java.util.List;
import java.util.Set;
import java.util.TreeSet;
import java.util.regex.Matcher;
import java.util.regex.Pattern;

/**
 * Prints a test, the class ReadmeAnswers, made of the example in README.md: each of its calls behind
 * which an answer stands is held against it. Ends with exit code 1 when README.md has no such example,
 * or when a method of the face is not in it.
 */
public final class ReadmeExample {
    private static final Pattern ANSWERED =
            Pattern.compile("rules\\.(\\w+)\\((.*)\\); +// (-?\\d+|true|false)(: .*)?");
    // A call on a line of its own whose answer is left out, or told in a form that is not looked at.
    private static final Pattern BARE_CALL = Pattern.compile("rules\\.\\w+\\(.*");

    private static final String HEAD = """
            public final class ReadmeAnswers {
                private static int wrong;

                private static void due(int line, String call, Object got, String want) {
                    if (!want.equals(String.valueOf(got))) {
                        wrong++;
                        System.out.println("README.md, line " + line + ": " + call + " answered " + got + ", there stands " + want);
                    }
                }

                public static void main(String[] args) {
            """;
    private static final String FOOT = """
                    System.exit(wrong == 0 ? 0 : 1);
                }
            }
            """;

    public static void main(String[] args) throws IOException {
        List<String> lines = Files.readAllLines(Path.of(args[0]));
        int from = lines.indexOf("```java") + 1;
        int to = from + lines.subList(from, lines.size()).indexOf("```");
        if (from == 0 || to < from) {
            refuse("there is no example in Java");
        }
        Set<String> unseen = methods();
        List<String> test = new ArrayList<>();
        for (int i = from; i < to; i++) {
            test.add(checked(lines.get(i), i + 1, unseen));
        }
        if (!unseen.isEmpty()) {
            refuse("the example does not call " + unseen);
        }
        System.out.print(HEAD + String.join("\n", test) + "\n" + FOOT);
    }

    private static String checked(String line, int number, Set<String> unseen) {
        Matcher call = ANSWERED.matcher(line);
        if (call.matches()) {
            unseen.remove(call.group(1));
            String made = "rules." + call.group(1) + "(" + call.group(2) + ")";
            return "due(" + number + ", \"" + made + "\", " + made + ", \"" + call.group(3) + "\");";
        }
        if (BARE_CALL.matcher(line).matches()) {
            refuse("line " + number + " tells no answer: " + line);
        }
        if (line.contains("rules.unit(")) {
            unseen.remove("unit");
        }
        return line;
    }

    private static Set<String> methods() {
        Set<String> names = new TreeSet<>();
        for (Method method : CodeRules.class.getDeclaredMethods()) {
            if (Modifier.isPublic(method.getModifiers())) {
                names.add(method.getName());
            }
        }
        return names;
    }

    private static void refuse(String why) {
        System.err.println("README.md: " + why);
        System.exit(1);
    }
}
