import java.io.IOException;
import java.lang.reflect.Method;
import java.lang.reflect.Modifier;
import java.nio.file.Files;
import java.nio.file.Path;
import java.util.Arrays;
import java.util.Set;
import java.util.TreeSet;
import java.util.regex.Matcher;
import java.util.regex.Pattern;

/** The run of calls that README.md shows answers as it says there, and shows every call. */
public final class ReadmeTest {
    private static final Pattern RUN = Pattern.compile("```java\n(.*?)```", Pattern.DOTALL);
    private static final String MADE = "TowerPrisoner x = new TowerPrisoner();";
    private static final String TYPED =
            "for (int i = 0; i < text.length(); i++) x.type(text.charAt(i));";
    private static final Pattern TEXT = Pattern.compile("String text = \"([^\"\\\\]*)\";");
    private static final Pattern CALL = Pattern.compile(
            "x\\.(\\w+)\\(([^)]*)\\); +// (-?\\d+)(?::.*)?");

    private static int number(String told) {
        return told.matches("'.'") ? told.charAt(1) : Integer.parseInt(told);
    }

    private static Object[] numbers(String told) {
        String[] each = told.isEmpty() ? new String[0] : told.split(", ");
        Object[] numbers = new Object[each.length];
        for (int i = 0; i < each.length; i++) {
            numbers[i] = number(each[i]);
        }
        return numbers;
    }

    private static long answer(TowerPrisoner x, String name, Object[] numbers)
            throws ReflectiveOperationException {
        Class<?>[] types = new Class<?>[numbers.length];
        Arrays.fill(types, int.class);
        Method call = TowerPrisoner.class.getMethod(name, types);
        return ((Number) call.invoke(x, numbers)).longValue();
    }

    private static Set<String> calls() {
        Set<String> names = new TreeSet<>();
        for (Method m : TowerPrisoner.class.getDeclaredMethods()) {
            if (Modifier.isPublic(m.getModifiers())) {
                names.add(m.getName());
            }
        }
        return names;
    }

    private static void follow(String run) throws ReflectiveOperationException {
        TowerPrisoner x = new TowerPrisoner();
        String text = "";
        Set<String> unseen = calls();
        for (String line : run.split("\n")) {
            Matcher told = TEXT.matcher(line);
            Matcher call = CALL.matcher(line);
            if (told.matches()) {
                text = told.group(1);
            } else if (line.equals(TYPED)) {
                Check.typed(x, text);
            } else if (call.matches()) {
                unseen.remove(call.group(1));
                long got = answer(x, call.group(1), numbers(call.group(2)));
                Check.due(line, got, Long.parseLong(call.group(3)));
            } else {
                boolean telling = line.isEmpty() || line.startsWith("// ");
                Check.holds("a line that is understood: " + line, telling || line.equals(MADE));
            }
        }
        Check.holds("calls that README.md does not show: " + unseen, unseen.isEmpty());
    }

    public static void main(String[] args) throws IOException, ReflectiveOperationException {
        Matcher m = RUN.matcher(Files.readString(Path.of("README.md")));
        boolean shown = m.find();
        Check.holds("README.md shows a run of calls", shown);
        if (shown) {
            follow(m.group(1));
        }
        Check.end();
    }
}
