import java.io.IOException;
import java.nio.file.Files;
import java.nio.file.Path;
import java.util.regex.Matcher;
import java.util.regex.Pattern;

/** README.md's example is as it says: each call answers the number that stands behind it. */
public final class ReadmeTests {
    private static final Pattern TYPED = Pattern.compile("for \\(char c : \"(.*)\"\\.toCharArray\\(\\)\\) x\\.type\\(c\\);");
    private static final Pattern CALL = Pattern.compile("x\\.(\\w+\\([-0-9, ]*\\)); *// (-?\\d+)\\b.*");
    private static final int LEAST_CALLS = 20;

    public static void main(String[] args) throws IOException {
        Caller x = new Caller();
        int calls = 0, wrong = 0;
        for (String line : example().split("\n")) {
            Matcher typed = TYPED.matcher(line), call = CALL.matcher(line);
            if (typed.matches()) {
                x.type(typed.group(1));
            } else if (call.matches()) {
                calls++;
                int answer = x.ask(call.group(1));
                if (answer != Integer.parseInt(call.group(2))) {
                    wrong++;
                    System.out.println(line + " answered " + answer);
                }
            } else if (!line.isEmpty() && !line.equals("GladRoad x = new GladRoad();")) {
                wrong++;
                System.out.println("no call with its answer: " + line);
            }
        }
        boolean holds = wrong == 0 && calls >= LEAST_CALLS;
        System.out.println(calls + " calls of README.md" + (holds ? " are as it says" : ", not as it says"));
        System.exit(holds ? 0 : 1);
    }

    private static String example() throws IOException {
        String readme = Files.readString(Path.of("README.md"));
        int begin = readme.indexOf("```java\n"), end = readme.indexOf("\n```", begin + 1);
        return begin < 0 || end < 0 ? "" : readme.substring(begin + "```java\n".length(), end);
    }
}
