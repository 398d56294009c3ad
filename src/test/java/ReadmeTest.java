import java.io.IOException;
import java.lang.reflect.Method;
import java.nio.charset.StandardCharsets;
import java.nio.file.Files;
import java.nio.file.Path;
import java.util.List;
import java.util.Set;
import java.util.TreeSet;
import java.util.regex.Matcher;
import java.util.regex.Pattern;

/** README.md: its examples answer as it says, and its tables tell every call. */
public final class ReadmeTest {
    private static final Pattern EXAMPLE = Pattern.compile("x\\.(\\w+)\\((.*)\\); +// (-?\\w+)(:.*)?");
    private static final Pattern PACKED = Pattern.compile("packed\\(\"(.{1,8})\"\\)");
    private static final Pattern ROW = Pattern.compile("\\| `(\\w+)\\(([^)]*)\\)` \\| .+ \\| .*\\|");

    public static void main(String[] args) throws IOException, ReflectiveOperationException {
        List<String> lines = Files.readAllLines(Path.of("README.md"), StandardCharsets.UTF_8);
        examples(lines);
        tables(lines);
        Check.end();
    }

    private static void examples(List<String> lines) throws ReflectiveOperationException {
        LowWater x = null;
        Set<String> shown = new TreeSet<>();
        for (String line : lines) {
            if (line.startsWith("LowWater x = new LowWater();")) {
                x = new LowWater();
            } else if (line.startsWith("x.")) {
                Matcher m = EXAMPLE.matcher(line);
                if (!m.matches()) {
                    Check.due("README, an example without an answer: " + line, 1, 0);
                    continue;
                }
                shown.add(m.group(1));
                Check.due("README, " + line, answer(x, m.group(1), m.group(2)), number(m.group(3)));
            }
        }
        for (Method method : LowWater.class.getMethods()) {
            if (method.getDeclaringClass() == LowWater.class) {
                Check.due("README, an example of " + method.getName(), shown.contains(method.getName()) ? 1 : 0, 1);
            }
        }
    }

    private static long answer(LowWater x, String name, String told) throws ReflectiveOperationException {
        String[] parts = told.isEmpty() ? new String[0] : told.split(", ");
        Class<?>[] types = new Class<?>[parts.length];
        Object[] numbers = new Object[parts.length];
        for (int i = 0; i < parts.length; i++) {
            boolean letters = name.equals("letters");
            types[i] = letters ? long.class : int.class;
            if (letters) {
                numbers[i] = number(parts[i]);
            } else {
                numbers[i] = (int) number(parts[i]);
            }
        }
        Object answer = LowWater.class.getMethod(name, types).invoke(x, numbers);
        return ((Number) answer).longValue();
    }

    private static long number(String told) throws ReflectiveOperationException {
        Matcher packed = PACKED.matcher(told);
        if (packed.matches()) {
            return Check.word(packed.group(1));
        }
        String name = told.replace("LowWater.", "");
        if (Character.isLetter(name.charAt(0))) {
            return LowWater.class.getField(name).getInt(null);
        }
        return Long.parseLong(name);
    }

    private static void tables(List<String> lines) {
        Set<String> told = new TreeSet<>();
        for (String line : lines) {
            Matcher m = ROW.matcher(line);
            if (m.matches()) {
                int numbers = m.group(2).isEmpty() ? 0 : m.group(2).split(",").length;
                told.add(m.group(1) + " " + numbers);
            }
        }
        for (Method method : LowWater.class.getMethods()) {
            if (method.getDeclaringClass() == LowWater.class) {
                String call = method.getName() + " " + method.getParameterCount();
                Check.due("README, a row of " + call, told.remove(call) ? 1 : 0, 1);
            }
        }
        Check.due("README, rows too many: " + told, told.size(), 0);
    }
}
