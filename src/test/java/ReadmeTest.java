import java.lang.reflect.Method;
import java.lang.reflect.Modifier;
import java.nio.file.Files;
import java.nio.file.Path;
import java.util.HashSet;
import java.util.Set;
import java.util.regex.Matcher;
import java.util.regex.Pattern;

/** README.md says how to use the class: its calls answer what it says, and none of them is missing. */
public final class ReadmeTest {
    private static final Pattern EXAMPLE = Pattern.compile("```java\n(.*?)```", Pattern.DOTALL);
    private static final Pattern CALL = Pattern.compile("^x\\.(\\w+)\\((.*?)\\);(.*)$", Pattern.MULTILINE);
    private static final Pattern ANSWER = Pattern.compile("\\s*// (-?\\d+|true|false)(:.*)?");
    private static int wrong = 0;
    private static int asked = 0;

    private static void due(String what, boolean holds) {
        asked++;
        if (!holds) {
            wrong++;
            System.out.println("README.md: not so: " + what);
        }
    }

    private static Method methodOf(String name) {
        for (Method m : CallSlicer.class.getDeclaredMethods()) {
            if (m.getName().equals(name) && Modifier.isPublic(m.getModifiers())) {
                return m;
            }
        }
        return null;
    }

    private static Object[] numbersIn(String list) {
        String[] parts = list.isEmpty() ? new String[0] : list.split(", ");
        Object[] numbers = new Object[parts.length];
        for (int i = 0; i < parts.length; i++) {
            numbers[i] = Integer.valueOf(parts[i]);
        }
        return numbers;
    }

    private static void checkExample(String example) throws Exception {
        CallSlicer x = new CallSlicer();
        Set<String> named = new HashSet<>();
        Matcher call = CALL.matcher(example);
        while (call.find()) {
            Method method = methodOf(call.group(1));
            Matcher answer = ANSWER.matcher(call.group(3));
            due(call.group() + " calls the class and tells its answer", method != null && answer.matches());
            if (method != null && answer.matches()) {
                named.add(method.getName());
                String got = String.valueOf(method.invoke(x, numbersIn(call.group(2))));
                due(call.group() + ", it answered " + got, got.equals(answer.group(1)));
            }
        }
        for (Method m : CallSlicer.class.getDeclaredMethods()) {
            if (Modifier.isPublic(m.getModifiers())) {
                due(m.getName() + " stands in the example", named.contains(m.getName()));
            }
        }
    }

    public static void main(String[] args) throws Exception {
        String page = Files.readString(Path.of("README.md"));
        Matcher example = EXAMPLE.matcher(page);
        boolean found = example.find();
        due("there is an example", found);
        if (found) {
            checkExample(example.group(1));
        }
        due("it says how to run the tests", page.contains(".ci/run"));
        System.out.println("README.md: " + asked + " checks, " + wrong + " wrong");
        if (wrong != 0) {
            System.exit(1);
        }
    }
}
