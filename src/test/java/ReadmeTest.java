import java.io.IOException;
import java.lang.reflect.Method;
import java.lang.reflect.Modifier;
import java.nio.file.Files;
import java.nio.file.Path;
import java.util.Arrays;
import java.util.HashSet;
import java.util.List;
import java.util.Set;
import java.util.regex.Matcher;
import java.util.regex.Pattern;

/**
 * What README.md tells holds: each line "chip.call(numbers);  // answer: why" of its examples is
 * called, and each call of the face is among them.
 */
final class ReadmeTest {
    private static final Path README = Path.of("README.md");
    private static final Pattern NEW_CHIP =
        Pattern.compile("TwinStackChip chip = new TwinStackChip\\(\\);");
    private static final Pattern CALL =
        Pattern.compile("chip\\.(\\w+)\\(([^)]*)\\);(?: +// (-?\\w+): .+)?");

    private static final Set<String> called = new HashSet<>();
    private static TwinStackChip chip;

    public static void main(String[] args) throws IOException, ReflectiveOperationException {
        List<String> lines = Files.readAllLines(README);
        boolean inExample = false;
        for (String line : lines) {
            if (line.startsWith("```")) {
                inExample = line.equals("```java");
                chip = null;
            } else if (inExample && !line.isBlank()) {
                follow(line);
            }
        }
        for (Method method : TwinStackChip.class.getDeclaredMethods()) {
            if (Modifier.isPublic(method.getModifiers())) {
                String name = method.getName();
                Check.due("an example calls " + name, called.contains(name), true);
            }
        }
        Check.finish();
    }

    private static void follow(String line) throws ReflectiveOperationException {
        if (NEW_CHIP.matcher(line).matches()) {
            chip = new TwinStackChip();
            return;
        }
        Matcher call = CALL.matcher(line);
        boolean understood = call.matches() && chip != null;
        Check.due("README's line is a call of a chip: " + line, understood, true);
        if (understood) {
            answer(line, call.group(1), numbers(call.group(2)), call.group(3));
        }
    }

    private static Object[] numbers(String listed) {
        String[] parts = listed.isEmpty() ? new String[0] : listed.split(", ");
        Object[] numbers = new Object[parts.length];
        for (int i = 0; i < parts.length; i++) {
            // The bytes of a word may fill all 32 bits, as an int literal in base 16 may.
            numbers[i] = Long.decode(parts[i]).intValue();
        }
        return numbers;
    }

    private static void answer(String line, String name, Object[] numbers, String due)
            throws ReflectiveOperationException {
        Class<?>[] types = new Class<?>[numbers.length];
        Arrays.fill(types, int.class);
        Object got = TwinStackChip.class.getMethod(name, types).invoke(chip, numbers);
        called.add(name);
        if (got == null) {
            Check.due("no answer is told: " + line, due == null, true);
        } else if (got instanceof Boolean) {
            Check.due(line, String.valueOf(got).equals(due), true);
        } else {
            Check.due(line, (Integer) got, due == null ? Long.MIN_VALUE : Long.decode(due));
        }
    }
}
