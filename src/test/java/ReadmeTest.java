import java.lang.reflect.Method;
import java.lang.reflect.Modifier;
import java.nio.charset.StandardCharsets;
import java.nio.file.Files;
import java.nio.file.Path;
import java.util.regex.Matcher;
import java.util.regex.Pattern;

/** README.md: each call of its example answers what stands behind it, and it names each call that there is. */
public final class ReadmeTest {
    private static final Pattern TYPED =
        Pattern.compile("for \\(char c : \"(.*)\"\\.toCharArray\\(\\)\\) x\\.type\\(c\\);");
    private static final Pattern CALL = Pattern.compile("x\\.(\\w+)\\((.*)\\); +// (-?\\d+)(:.*)?");

    public static void main(String[] args) throws Exception {
        String readme = Files.readString(Path.of("README.md"), StandardCharsets.UTF_8);
        String use = readme.substring(readme.indexOf("## How to use it"), readme.indexOf("## How it is built"));
        example(use);
        names(use);
        Check.end("ReadmeTest");
    }

    private static void example(String use) throws Exception {
        PileMaps x = null;
        int calls = 0;
        for (String line : use.lines().filter(each -> each.startsWith("    ")).map(String::strip).toList()) {
            Matcher typed = TYPED.matcher(line);
            Matcher call = CALL.matcher(line);
            if (line.equals("PileMaps x = new PileMaps();")) {
                x = new PileMaps();
            } else if (typed.matches()) {
                for (char c : typed.group(1).toCharArray()) {
                    x.type(c);
                }
            } else if (call.matches()) {
                calls++;
                int due = Integer.parseInt(call.group(3));
                Check.due("README.md: " + line, answer(x, call.group(1), call.group(2)), due);
            } else {
                Check.due("README.md: is a call with its answer: " + line, line.startsWith("//"));
            }
        }
        Check.due("README.md has an example", calls > 0);
    }

    private static int answer(PileMaps x, String name, String arguments) throws Exception {
        String[] told = arguments.isEmpty() ? new String[0] : arguments.split(", ");
        Object[] values = new Object[told.length];
        for (int i = 0; i < told.length; i++) {
            values[i] = value(told[i]);
        }
        for (Method method : PileMaps.class.getMethods()) {
            if (method.getName().equals(name) && method.getDeclaringClass() == PileMaps.class) {
                return (int) method.invoke(x, values);
            }
        }
        throw new IllegalArgumentException("no call " + name);
    }

    private static Object value(String told) {
        if (told.matches("'.'")) {
            return told.charAt(1);
        }
        if (told.matches("true|false")) {
            return Boolean.valueOf(told);
        }
        return Integer.valueOf(told);
    }

    private static void names(String use) {
        for (Method method : PileMaps.class.getDeclaredMethods()) {
            if (Modifier.isPublic(method.getModifiers())) {
                Check.due("README.md names " + method.getName(), use.contains("`" + method.getName() + "`"));
            }
        }
    }
}
