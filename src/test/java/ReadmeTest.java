import java.lang.reflect.Method;
import java.lang.reflect.Modifier;
import java.nio.file.Files;
import java.nio.file.Path;
import java.util.List;
import java.util.regex.Matcher;
import java.util.regex.Pattern;

/** README.md: the calls that it shows answer as it says, and it names every call of the face. */
public final class ReadmeTest {
    private static final Pattern CALL = Pattern.compile("x\\.(\\w+)\\(([-0-9, ]*)\\); +// (-?\\d+|[A-Z]+):.*");
    private static final Pattern TEXT = Pattern.compile("String text = \"(.*)\";");
    private static final Check check = new Check();

    public static void main(String[] args) throws Exception {
        List<String> page = Files.readAllLines(Path.of("README.md"));
        shown(page);
        named(page);
        check.end();
    }

    private static void shown(List<String> page) throws Exception {
        PlatesLookingIn x = new PlatesLookingIn();
        int begin = page.indexOf("```java");
        int calls = 0;
        for (int i = begin + 1; i < page.size() && !page.get(i).equals("```"); i++) {
            Matcher text = TEXT.matcher(page.get(i));
            if (text.matches()) Check.writeAll(x, text.group(1));
            if (!page.get(i).startsWith("x.")) continue;
            Matcher call = CALL.matcher(page.get(i));
            check.due("a call with its answer: " + page.get(i), call.matches() ? 1 : 0, 1);
            if (!call.matches()) continue;
            check.due(page.get(i), answer(x, call.group(1), call.group(2)), told(call.group(3)));
            calls++;
        }
        check.due("calls are shown", calls > 0 ? 1 : 0, 1);
    }

    private static int answer(PlatesLookingIn x, String name, String given) throws Exception {
        String[] parts = given.isEmpty() ? new String[0] : given.split(", ");
        Class<?>[] types = new Class<?>[parts.length];
        Object[] numbers = new Object[parts.length];
        for (int i = 0; i < parts.length; i++) {
            types[i] = int.class;
            numbers[i] = Integer.valueOf(parts[i]);
        }
        return (Integer) PlatesLookingIn.class.getMethod(name, types).invoke(x, numbers);
    }

    private static int told(String answer) throws Exception {
        return Character.isUpperCase(answer.charAt(0))
            ? PlatesLookingIn.class.getField(answer).getInt(null)
            : Integer.parseInt(answer);
    }

    private static void named(List<String> page) {
        String table = String.join("\n", page);
        for (Method method : PlatesLookingIn.class.getDeclaredMethods()) {
            if (!Modifier.isPublic(method.getModifiers())) continue;
            Matcher row = Pattern.compile("`" + method.getName() + "\\(([^)`]*)\\)`").matcher(table);
            boolean isNamed = row.find();
            check.due(method.getName() + " is in the table", isNamed ? 1 : 0, 1);
            if (!isNamed) continue;
            int taken = row.group(1).isEmpty() ? 0 : row.group(1).split(",").length;
            check.due(method.getName() + " is named with what it takes", taken, method.getParameterCount());
        }
    }
}
