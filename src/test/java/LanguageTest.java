import java.lang.reflect.Constructor;
import java.lang.reflect.Field;
import java.lang.reflect.Method;
import java.lang.reflect.Modifier;
import java.nio.charset.StandardCharsets;
import java.nio.file.Files;
import java.nio.file.Path;
import java.util.Arrays;
import java.util.List;
import java.util.TreeSet;
import java.util.regex.Matcher;
import java.util.regex.Pattern;

/** The face of the document, and what of ../shared/LANGUAGE.md can be seen without running the program. */
public final class LanguageTest {
    private static final List<String> METHODS = List.of("push(int)", "pop(int)", "turn(int,int,boolean)",
        "lift(int,int,int)", "setEntry(int,int,int,int)", "flatten(int)", "assign()", "setRule(int)", "hide(int,int)",
        "ask(int)", "type(char)", "clearText()", "undo()", "keep()", "restore()", "get(int,int)", "tells(int,int)",
        "map(int,int)", "layer(int,int,int)", "entry(int,int,int)", "follow(int,int,int)", "after(int,int,int)",
        "gives(int)", "differ(int,int)", "probes(int)", "hidden(int)", "split(int,int)", "count(int)");
    private static final List<String> CONSTANTS = List.of("UNKNOWN", "BAD_VALUE", "FULL", "NOT_POSSIBLE", "NONE");
    private static final List<String> BANNED = List.of("throw", "throws", "try", "catch", "finally", "synchronized",
        "assert", "import static", "package", "protected", "Object", "\\w+Exact", "hashCode", "getClass");
    private static final List<String> IMPORTS = List.of("java.util.Arrays", "java.util.ArrayList", "java.util.List",
        "java.util.Iterator", "java.util.*");
    private static final List<String> ARRAYS = List.of("copyOf", "copyOfRange", "fill");

    public static void main(String[] args) throws Exception {
        face();
        constants();
        insideClasses();
        source();
        Check.end("LanguageTest");
    }

    private static void face() {
        Class<PileMaps> type = PileMaps.class;
        Check.due("the class is public and final", type.getModifiers(), Modifier.PUBLIC | Modifier.FINAL);
        Check.due("the class has no package", type.getPackageName().isEmpty());
        Constructor<?>[] constructors = type.getDeclaredConstructors();
        Check.due("constructors", constructors.length, 1);
        Check.due("the constructor is public", Modifier.isPublic(constructors[0].getModifiers()));
        Check.due("the constructor has no argument", constructors[0].getParameterCount(), 0);
        TreeSet<String> found = new TreeSet<>();
        TreeSet<String> names = new TreeSet<>();
        for (Method method : type.getDeclaredMethods()) {
            if (!Modifier.isPrivate(method.getModifiers())) {
                String types = Arrays.toString(method.getParameterTypes()).replaceAll("[\\[\\] ]", "");
                found.add(method.getName() + "(" + types + ")");
                names.add(method.getName());
                Check.due(method.getName() + " answers an int", method.getReturnType() == int.class);
                Check.due(method.getName() + " is public", method.getModifiers(), Modifier.PUBLIC);
            }
        }
        Check.due("the methods are those of the document: " + found, found.equals(new TreeSet<>(METHODS)));
        for (Method method : type.getDeclaredMethods()) {
            boolean hidden = Modifier.isPrivate(method.getModifiers());
            Check.due(method.getName() + ": no private method with a public name", !hidden || !names.contains(method.getName()));
        }
    }

    private static void constants() throws Exception {
        for (int i = 0; i < CONSTANTS.size(); i++) {
            Field field = PileMaps.class.getField(CONSTANTS.get(i));
            Check.due(CONSTANTS.get(i), field.getInt(null), -1 - i);
            Check.due(CONSTANTS.get(i) + " is a constant", field.getModifiers(),
                Modifier.PUBLIC | Modifier.STATIC | Modifier.FINAL);
        }
        for (Field field : PileMaps.class.getDeclaredFields()) {
            boolean told = CONSTANTS.contains(field.getName());
            Check.due(field.getName() + " is private", told || Modifier.isPrivate(field.getModifiers()));
        }
    }

    private static void insideClasses() {
        Class<?>[] inside = PileMaps.class.getDeclaredClasses();
        Check.due("at most some twelve classes", inside.length <= 12);
        for (Class<?> type : inside) {
            Check.due(type + " is static", Modifier.isStatic(type.getModifiers()));
            Check.due(type + " is not public", !Modifier.isPublic(type.getModifiers()));
            int fields = 0;
            for (Field field : type.getDeclaredFields()) {
                boolean isStatic = Modifier.isStatic(field.getModifiers());
                fields += isStatic ? 0 : 1;
                Check.due(field + ": static fields are final", !isStatic || Modifier.isFinal(field.getModifiers()));
            }
            Check.due(type + " has at most some twenty fields", fields <= 20);
            for (Method method : type.getDeclaredMethods()) {
                Check.due(method + " has at most seven parameters", method.getParameterCount() <= 7);
            }
        }
    }

    private static void source() throws Exception {
        String source = Files.readString(Path.of("src/main/java/PileMaps.java"), StandardCharsets.UTF_8);
        Check.due("the source is plain", source.chars().allMatch(c -> c < 128));
        String code = source.replaceAll("(?s)/\\*.*?\\*/", "").replaceAll("//[^\n]*", "");
        for (String word : BANNED) {
            Check.due("no '" + word + "'", !Pattern.compile("\\b" + word + "\\b").matcher(code).find());
        }
        Check.due("no method reference", !code.contains("::"));
        Check.due("no lambda", !code.replaceAll("(case [^;:{}]*|default\\s*)->", "").contains("->"));
        Matcher imports = Pattern.compile("import ([^;]*);").matcher(code);
        while (imports.find()) {
            Check.due("import " + imports.group(1), IMPORTS.contains(imports.group(1)));
        }
        Matcher calls = Pattern.compile("\\b(Arrays|System)\\.(\\w+)").matcher(code);
        while (calls.find()) {
            boolean ofArrays = calls.group(1).equals("Arrays") && ARRAYS.contains(calls.group(2));
            Check.due("library: " + calls.group(), ofArrays || calls.group().equals("System.arraycopy"));
        }
    }
}
