import java.io.IOException;
import java.lang.reflect.Method;
import java.lang.reflect.Modifier;
import java.nio.file.Files;
import java.nio.file.Path;
import java.util.Arrays;
import java.util.regex.Matcher;
import java.util.regex.Pattern;

/** README.md tells the truth: its example answers what its comments say, and every call of the face is named. */
public final class ReadmeTest {
    // A call, its arguments, and the answer, where the comment begins with one.
    private static final Pattern CALL = Pattern.compile(
        "^tier\\.(\\w+)\\((.*?)\\);\\s*// (-?\\d+\\b|true\\b|false\\b)?", Pattern.MULTILINE);

    private ReadmeTest() {
    }

    public static void main(String[] args) throws IOException, ReflectiveOperationException {
        String readme = Files.readString(Path.of("README.md"));
        Expect.same("the example has a tier of 4 slots", readme.contains("tier = new WriteBackTier(4);"), true);
        exampleAnswersWhatItSays(readme);
        everyCallIsNamed(readme);
        Expect.end();
    }

    private static void exampleAnswersWhatItSays(String readme) throws ReflectiveOperationException {
        WriteBackTier tier = new WriteBackTier(4);
        int told = 0;
        Matcher line = CALL.matcher(readme);
        while (line.find()) {
            String got = String.valueOf(call(tier, line.group(1), line.group(2)));
            if (line.group(3) != null) {
                Expect.same(line.group(), got, line.group(3));
                told++;
            }
        }
        Expect.same("the example tells answers", told > 0, true);
    }

    private static Object call(WriteBackTier tier, String name, String arguments) throws ReflectiveOperationException {
        Method method = Arrays.stream(WriteBackTier.class.getDeclaredMethods())
            .filter(m -> m.getName().equals(name)).findFirst().orElseThrow();
        String[] texts = arguments.isEmpty() ? new String[0] : arguments.split(", ");
        Object[] values = new Object[texts.length];
        for (int i = 0; i < texts.length; i++) {
            long value = Long.parseLong(texts[i].replace("L", ""));
            values[i] = method.getParameterTypes()[i] == int.class ? (Object) (int) value : (Object) value;
        }
        return method.invoke(tier, values);
    }

    private static void everyCallIsNamed(String readme) {
        for (Method m : WriteBackTier.class.getDeclaredMethods()) {
            if (Modifier.isPublic(m.getModifiers())) {
                Expect.same("README names " + m.getName(), readme.contains("| `" + m.getName() + "("), true);
            }
        }
    }
}
