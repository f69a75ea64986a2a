import java.io.IOException;
import java.lang.reflect.Method;
import java.lang.reflect.Modifier;
import java.nio.file.Files;
import java.nio.file.Path;
import java.util.regex.Matcher;
import java.util.regex.Pattern;

/** What README.md says of the class is so: its example answers what stands behind each call, and no call is left out. */
public final class ReadmeTest extends Checks {
    private static final Pattern TEXT = Pattern.compile("String text = \"([^\"]*)\";");
    private static final Pattern CALL = Pattern.compile("(?m)^x\\.(\\w+)\\(([-0-9, ]*)\\);\\s*// (-?\\d+):");

    private static Method methodOf(String name) {
        for (Method method : SovereignInBarrow.class.getDeclaredMethods()) {
            if (method.getName().equals(name) && Modifier.isPublic(method.getModifiers())) {
                return method;
            }
        }
        throw new IllegalStateException("README.md calls " + name + ", which there is not");
    }

    private static long answer(SovereignInBarrow x, String name, String written) throws ReflectiveOperationException {
        String[] numbers = written.isBlank() ? new String[0] : written.split(",");
        Object[] arguments = new Object[numbers.length];
        for (int i = 0; i < numbers.length; i++) {
            arguments[i] = Integer.parseInt(numbers[i].strip());
        }
        return ((Number) methodOf(name).invoke(x, arguments)).longValue();
    }

    private static void example(String readme) throws ReflectiveOperationException {
        SovereignInBarrow x = new SovereignInBarrow();
        Matcher text = TEXT.matcher(readme);
        due("a text is told", text.find() ? 1 : 0, 1);
        letters(x, text.group(1));
        Matcher call = CALL.matcher(readme);
        int calls = 0;
        while (call.find()) {
            due(call.group(1) + "(" + call.group(2) + ")", answer(x, call.group(1), call.group(2)), Long.parseLong(call.group(3)));
            calls++;
        }
        due("calls with an answer", calls, readme.split("(?m)^x\\.").length - 1);
        due("there are some", calls > 0 ? 1 : 0, 1);
    }

    private static void allCalls(String readme) {
        for (Method method : SovereignInBarrow.class.getDeclaredMethods()) {
            if (Modifier.isPublic(method.getModifiers())) {
                due(method.getName() + " is named", readme.contains("`" + method.getName() + "(") ? 1 : 0, 1);
            }
        }
    }

    public static void main(String[] args) throws IOException, ReflectiveOperationException {
        about = "README.md";
        String readme = Files.readString(Path.of("README.md"));
        example(readme);
        allCalls(readme);
        end("README.md is right");
    }
}
