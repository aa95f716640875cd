import java.io.IOException;
import java.lang.reflect.Method;
import java.nio.file.Files;
import java.nio.file.Path;
import java.util.ArrayList;
import java.util.List;
import java.util.regex.Matcher;
import java.util.regex.Pattern;

/** The examples of README.md: each call that is told with its answer gives it, and the helpers are those of the tests. */
public final class ReadmeTests {
    private static final Pattern CALL = Pattern.compile("game\\.(\\w+)\\(([^)]*)\\); // (-?\\d+|true|false)(:.*)?");
    private static final Pattern TOLD = Pattern.compile("tell\\(game, \"([^\"]*)\"\\); // (-?\\d+)(:.*)?");

    /** An argument as the examples have it: NONE, a number, or one sign between two of them. */
    private static int value(String argument) {
        String[] parts = argument.trim().split(" ");
        int value = parts[0].equals("NONE") ? PostStones.NONE : Integer.parseInt(parts[0]);
        for (int i = 1; i + 1 < parts.length; i += 2) {
            int other = Integer.parseInt(parts[i + 1]);
            value = parts[i].equals("*") ? value * other : parts[i].equals("+") ? value + other : value << other;
        }
        return value;
    }

    private static Object answer(PostStones game, String name, String arguments) throws ReflectiveOperationException {
        List<Object> values = new ArrayList<>();
        for (String argument : arguments.isEmpty() ? new String[0] : arguments.split(",")) {
            values.add(value(argument));
        }
        Class<?>[] types = new Class<?>[values.size()];
        java.util.Arrays.fill(types, int.class);
        Method method = PostStones.class.getMethod(name, types);
        return method.invoke(game, values.toArray());
    }

    private static int examples(List<String> blocks) throws ReflectiveOperationException {
        PostStones game = new PostStones();
        int told = 0;
        for (String block : blocks) {
            for (String line : block.split("\n")) {
                Matcher call = CALL.matcher(line);
                Matcher text = TOLD.matcher(line);
                if (text.matches()) {
                    Due.due("README, " + line, Due.tell(game, text.group(1)), Integer.parseInt(text.group(2)));
                } else if (call.matches()) {
                    String got = String.valueOf(answer(game, call.group(1), call.group(2)));
                    Due.due("README, " + line + " (answered " + got + ")", got.equals(call.group(3)) ? 1 : 0, 1);
                } else {
                    boolean known = line.isEmpty() || line.equals("PostStones game = new PostStones();");
                    Due.due("README has an example that can't be read: " + line, known ? 0 : 1, 0);
                }
                told++;
            }
        }
        return told;
    }

    private static void helpers(String block) throws IOException {
        List<String> lines = new ArrayList<>();
        for (String line : Files.readAllLines(Path.of("src/test/java/Due.java"))) {
            lines.add(line.trim());
        }
        for (String line : block.split("\n")) {
            Due.due("README's helper is the tests' own: " + line, lines.contains(line.trim()) ? 1 : 0, 1);
        }
    }

    public static void main(String[] args) throws IOException, ReflectiveOperationException {
        String readme = Files.readString(Path.of("README.md"));
        List<String> blocks = new ArrayList<>();
        Matcher java = Pattern.compile("```java\n(.*?)```", Pattern.DOTALL).matcher(readme);
        while (java.find()) {
            blocks.add(java.group(1));
        }
        Due.due("README has Java blocks", Math.min(blocks.size(), 3), 3);
        if (blocks.size() > 1) {
            helpers(blocks.get(0));
            Due.due("README's examples are many", Math.min(30, examples(blocks.subList(1, blocks.size()))), 30);
        }
        for (String call : new String[] {"new PostStones()", "feed", "text(", "letter(", "when(", "plies(", ".ci/run"}) {
            Due.due("README tells of " + call, readme.contains(call) ? 1 : 0, 1);
        }
        Due.close();
    }
}
