import java.io.IOException;
import java.lang.reflect.InvocationTargetException;
import java.lang.reflect.Method;
import java.lang.reflect.Modifier;
import java.nio.file.Files;
import java.nio.file.Path;
import java.util.regex.Matcher;
import java.util.regex.Pattern;

/** The examples of README.md: each call answers what stands behind it. */
public final class ReadmeTest {
    private static final Pattern EXAMPLE = Pattern.compile("```java\n(.*?)```", Pattern.DOTALL);
    private static final Pattern CALL = Pattern.compile("form\\.(\\w+)\\((.*)\\); +// (-?\\w+)(: .*)?");
    private static final String NEW = "FormFields form = new FormFields();";

    public static void main(String[] args) throws IOException {
        String readme = Files.readString(Path.of("README.md"));
        Matcher examples = EXAMPLE.matcher(readme);
        int count = 0;
        while (examples.find()) {
            run(examples.group(1));
            count++;
        }
        Check.same("README.md has examples", "true", "" + (count > 0));
        everyCallIsTold(readme);
        Check.end();
    }

    private static void run(String example) {
        FormFields form = null;
        for (String line : example.split("\n")) {
            Matcher call = CALL.matcher(line);
            if (line.equals(NEW)) {
                form = new FormFields();
            } else if (form != null && call.matches()) {
                Check.same(line, call.group(3), answer(form, call.group(1), call.group(2)));
            } else {
                Check.same(line, "a call and its answer", "something else");
            }
        }
    }

    /** The number that the call answers, or the name of what it throws. */
    private static String answer(FormFields form, String name, String written) {
        String[] words = written.isEmpty() ? new String[0] : written.split(", ");
        for (Method m : FormFields.class.getMethods()) {
            if (m.getName().equals(name) && m.getParameterCount() == words.length) {
                try {
                    return "" + m.invoke(form, arguments(m, words));
                } catch (InvocationTargetException e) {
                    return e.getCause().getClass().getSimpleName();
                } catch (IllegalAccessException e) {
                    return e.toString();
                }
            }
        }
        return "no such call";
    }

    private static Object[] arguments(Method m, String[] words) {
        Object[] all = new Object[words.length];
        for (int i = 0; i < all.length; i++) {
            Class<?> type = m.getParameterTypes()[i];
            all[i] = type == boolean.class ? (Object) Boolean.valueOf(words[i])
                    : type == long.class ? (Object) Long.valueOf(words[i])
                    : (Object) Integer.valueOf(number(words[i]));
        }
        return all;
    }

    private static int number(String word) {
        if (word.equals("'\\n'")) {
            return '\n';
        }
        return word.startsWith("'") ? word.charAt(1) : Integer.parseInt(word);
    }

    private static void everyCallIsTold(String readme) {
        for (Method m : FormFields.class.getDeclaredMethods()) {
            if (Modifier.isPublic(m.getModifiers())) {
                Check.same(m.getName() + " stands in README.md", "true", "" + readme.contains("\n| `" + m.getName() + "("));
            }
        }
    }
}
