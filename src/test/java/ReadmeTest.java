import java.io.IOException;
import java.lang.reflect.Method;
import java.lang.reflect.Modifier;
import java.nio.file.Files;
import java.nio.file.Path;
import java.util.regex.Matcher;
import java.util.regex.Pattern;

/** README.md says how to use the class: its example answers as it says, and no call is left out. */
public final class ReadmeTest {
    private static final Due DUE = new Due("ReadmeTest");
    private static final Pattern TOLD = Pattern.compile("String told = \"([^\"]*)\";");
    private static final Pattern CALL = Pattern.compile("(?m)^x\\.(\\w+)\\(([^)]*)\\); *// (-?\\d+):");

    public static void main(String[] args) throws IOException, ReflectiveOperationException {
        String page = Files.readString(Path.of(System.getProperty("project.root", "."), "README.md"));
        example(page);
        everyCallIsNamed(page);
        DUE.close();
    }

    private static void example(String page) throws ReflectiveOperationException {
        DebtRides x = new DebtRides();
        Matcher told = TOLD.matcher(page);
        DUE.is("a text is told", told.find() ? 1 : 0, 1);
        Due.feedAll(x, told.group(1));
        Matcher call = CALL.matcher(page);
        int calls = 0;
        while (call.find()) {
            calls++;
            DUE.is(call.group(), answer(x, call.group(1), call.group(2)), Long.parseLong(call.group(3)));
        }
        DUE.is("so many calls with their answers", calls, 17);
    }

    private static long answer(DebtRides x, String name, String list) throws ReflectiveOperationException {
        String[] numbers = list.isEmpty() ? new String[0] : list.split(", ");
        Class<?>[] types = new Class<?>[numbers.length];
        Object[] values = new Object[numbers.length];
        for (int i = 0; i < numbers.length; i++) {
            types[i] = int.class;
            values[i] = Integer.valueOf(numbers[i]);
        }
        return ((Number) DebtRides.class.getMethod(name, types).invoke(x, values)).longValue();
    }

    private static void everyCallIsNamed(String page) {
        for (Method m : DebtRides.class.getDeclaredMethods()) {
            if (Modifier.isPublic(m.getModifiers())) {
                DUE.is(m.getName() + " is named", page.contains("`" + m.getName() + "`") ? 1 : 0, 1);
            }
        }
    }
}
