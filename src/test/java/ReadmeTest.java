import java.io.IOException;
import java.lang.reflect.InvocationTargetException;
import java.lang.reflect.Method;
import java.nio.file.Files;
import java.nio.file.Path;
import java.util.ArrayList;
import java.util.List;
import java.util.regex.Matcher;
import java.util.regex.Pattern;

/** What README.md shows is what the class answers, and no call of the face is missing there. */
public final class ReadmeTest extends Due {
    private static final Pattern CALL =
            Pattern.compile("x\\.(\\w+)\\((.*)\\); *(?:// (throws \\w+|-?\\w+)\\b.*)?");
    private static final Pattern ARGUMENT = Pattern.compile("put\\(x, \"([^\"]*)\"\\)|[^, ]+");

    private static MarkField x = new MarkField();

    public static void main(String[] args) throws IOException {
        List<String> lines = Files.readAllLines(Path.of("README.md"));
        for (String line : lines) {
            if (line.startsWith("MarkField x")) {
                x = new MarkField();
            } else if (line.startsWith("x.")) {
                checkLine(line);
            }
        }
        checkNames(String.join("\n", lines));
        if (checks < 20) {
            complain("README.md shows too little: " + checks + " calls");
        }
        end();
    }

    private static void checkLine(String line) {
        checks++;
        Matcher call = CALL.matcher(line);
        if (!call.matches()) {
            complain("no call: " + line);
            return;
        }
        String want = call.group(3) == null ? "null" : call.group(3);
        String got = answer(call.group(1), argumentsOf(call.group(2)));
        if (!got.equals(want)) {
            complain(line + " answered " + got);
        }
    }

    private static List<Object> argumentsOf(String text) {
        List<Object> found = new ArrayList<>();
        Matcher argument = ARGUMENT.matcher(text);
        while (argument.find()) {
            String told = argument.group();
            if (argument.group(1) != null) {
                found.add(put(x, argument.group(1)));
            } else if (told.equals("true") || told.equals("false")) {
                found.add(told.equals("true"));
            } else {
                found.add(Integer.valueOf(told));
            }
        }
        return found;
    }

    private static String answer(String name, List<Object> arguments) {
        for (Method method : MarkField.class.getDeclaredMethods()) {
            if (method.getName().equals(name) && method.getParameterCount() == arguments.size()) {
                try {
                    return String.valueOf(method.invoke(x, arguments.toArray()));
                } catch (InvocationTargetException e) {
                    return "throws " + e.getCause().getClass().getSimpleName();
                } catch (IllegalAccessException e) {
                    return "can't be called";
                }
            }
        }
        return "there is no such call";
    }

    private static void checkNames(String readme) {
        for (Method method : MarkField.class.getDeclaredMethods()) {
            if (java.lang.reflect.Modifier.isPublic(method.getModifiers())) {
                checks++;
                if (!readme.contains("`" + method.getName() + "`")) {
                    complain("README.md does not tell of " + method.getName());
                }
            }
        }
    }
}
