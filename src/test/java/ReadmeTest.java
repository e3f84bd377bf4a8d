import java.io.IOException;
import java.lang.reflect.InvocationTargetException;
import java.lang.reflect.Method;
import java.lang.reflect.Modifier;
import java.nio.file.Files;
import java.nio.file.Path;
import java.util.ArrayList;
import java.util.List;
import java.util.TreeSet;
import java.util.regex.Matcher;
import java.util.regex.Pattern;

/**
 * Carries out the examples of README.md, whose path is the second argument: each line is called,
 * and its answer is held against the comment behind it.
 */
public final class ReadmeTest {
    private static final String START = "BoundSearch game = new BoundSearch();";
    private static final Pattern TYPED =
            Pattern.compile("for \\(char sign : \"(.*)\"\\.toCharArray\\(\\)\\) \\{");
    private static final Pattern CALL =
            Pattern.compile("game\\.(\\w+)\\((.*)\\); +// (throws \\w+|[-\\w.]+).*");
    private static final List<String> LOOP = List.of("    game.append(sign);", "}");

    private static final List<String> faults = new ArrayList<>();
    private static final TreeSet<String> called = new TreeSet<>(List.of("append"));
    private static BoundSearch game = null;

    private ReadmeTest() {
    }

    private static List<String> examples(Path readme) throws IOException {
        List<String> examples = new ArrayList<>();
        boolean isInside = false;
        for (String line : Files.readAllLines(readme)) {
            if (line.startsWith("```")) {
                isInside = line.equals("```java");
            } else if (isInside) {
                examples.add(line);
            }
        }
        return examples;
    }

    private static String answer(String name, String arguments) {
        String[] written = arguments.isEmpty() ? new String[0] : arguments.split(", ");
        Class<?>[] types = new Class<?>[written.length];
        Object[] values = new Object[written.length];
        for (int index = 0; index < written.length; index++) {
            boolean isTruth = written[index].matches("true|false");
            types[index] = isTruth ? boolean.class : int.class;
            values[index] = isTruth ? (Object) Boolean.valueOf(written[index])
                    : (Object) Integer.valueOf(written[index]);
        }
        try {
            Method method = BoundSearch.class.getMethod(name, types);
            return String.valueOf(method.invoke(game, values));
        } catch (InvocationTargetException e) {
            return "throws " + e.getCause().getClass().getSimpleName();
        } catch (ReflectiveOperationException e) {
            return "cannot be called: " + e;
        }
    }

    private static void carryOut(String line) {
        Matcher typed = TYPED.matcher(line);
        Matcher call = CALL.matcher(line);
        if (line.equals(START)) {
            game = new BoundSearch();
        } else if (typed.matches()) {
            for (char sign : typed.group(1).toCharArray()) {
                game.append(sign);
            }
        } else if (call.matches()) {
            String got = answer(call.group(1), call.group(2));
            called.add(call.group(1));
            if (!got.equals(call.group(3))) {
                faults.add(line + "\n    answered " + got);
            }
        } else if (!LOOP.contains(line)) {
            faults.add(line + "\n    is not understood");
        }
    }

    /** digest() is told in words alone: its answer would tell a reader nothing. */
    private static void checkNames(String text) {
        for (Method method : BoundSearch.class.getDeclaredMethods()) {
            String name = method.getName();
            if (Modifier.isPublic(method.getModifiers()) && !called.contains(name)
                    && !text.contains("`" + name + "()`")) {
                faults.add("no example calls " + name);
            }
        }
    }

    public static void main(String[] args) throws IOException {
        Path readme = Path.of(args.length > 1 ? args[1] : "README.md");
        examples(readme).forEach(ReadmeTest::carryOut);
        checkNames(Files.readString(readme));
        faults.forEach(System.out::println);
        System.out.println(faults.isEmpty() ? "the examples of README.md hold"
                : faults.size() + " faults in README.md");
        if (!faults.isEmpty()) {
            System.exit(1);
        }
    }
}
