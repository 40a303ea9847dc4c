import java.io.IOException;
import java.lang.reflect.Method;
import java.lang.reflect.Modifier;
import java.nio.file.Files;
import java.nio.file.Path;
import java.util.Arrays;
import java.util.Set;
import java.util.TreeSet;
import java.util.regex.Matcher;
import java.util.regex.Pattern;

/** The calls that README.md shows, in their order on one object, answer what stands behind them. */
final class ReadmeTests {
    private static final Pattern BLOCK = Pattern.compile("```java\\n(.*?)```", Pattern.DOTALL);
    private static final Pattern CALL = Pattern.compile("x\\.(\\w+)\\(([^)]*)\\);\\s+// (-?\\d+|[A-Z]+)(:.*)?");
    private static final Pattern TYPED =
            Pattern.compile("for \\(char c : \"([^\"]*)\"\\.toCharArray\\(\\)\\) x\\.type\\(c\\);");
    private static final String MADE = "SmallestSpeed x = new SmallestSpeed();";

    private final SmallestSpeed x = new SmallestSpeed();
    private final Set<String> shown = new TreeSet<>();
    private int made;

    private ReadmeTests() {
    }

    static void run(Path readme) {
        try {
            new ReadmeTests().page(Files.readString(readme));
        } catch (IOException | ReflectiveOperationException e) {
            Check.that("README.md: " + e, false);
        }
    }

    private void page(String text) throws ReflectiveOperationException {
        Matcher blocks = BLOCK.matcher(text);
        while (blocks.find()) {
            for (String line : blocks.group(1).split("\n")) {
                line(line.strip());
            }
        }
        Check.that("README.md makes one object", made == 1);
        for (Method m : SmallestSpeed.class.getDeclaredMethods()) {
            if (Modifier.isPublic(m.getModifiers())) {
                Check.that("README.md shows " + m.getName(), shown.contains(m.getName()));
            }
        }
    }

    private void line(String line) throws ReflectiveOperationException {
        Matcher call = CALL.matcher(line);
        Matcher typed = TYPED.matcher(line);
        if (line.equals(MADE)) {
            made++;
        } else if (typed.matches()) {
            shown.add("type");
            typed.group(1).chars().forEach(x::type);
        } else if (call.matches()) {
            shown.add(call.group(1));
            due("README.md: " + line, answer(call.group(1), numbers(call.group(2))), call.group(3));
        } else {
            Check.that("README.md: " + line + " is a call with its answer", false);
        }
    }

    private static void due(String what, long got, String want) throws ReflectiveOperationException {
        boolean isNumber = want.matches("-?\\d+");
        Check.due(what, got, isNumber ? Long.parseLong(want) : SmallestSpeed.class.getField(want).getInt(null));
    }

    private long answer(String name, Integer[] numbers) throws ReflectiveOperationException {
        Class<?>[] types = new Class<?>[numbers.length];
        Arrays.fill(types, int.class);
        Object answer = SmallestSpeed.class.getMethod(name, types).invoke(x, (Object[]) numbers);
        return ((Number) answer).longValue();
    }

    private static Integer[] numbers(String list) {
        if (list.isBlank()) {
            return new Integer[0];
        }
        return Arrays.stream(list.split(",")).map(n -> Integer.valueOf(n.strip())).toArray(Integer[]::new);
    }
}
