import java.io.ByteArrayOutputStream;
import java.io.OutputStream;
import java.io.PrintStream;
import java.lang.reflect.Method;
import java.net.URI;
import java.net.URL;
import java.net.URLClassLoader;
import java.nio.file.Files;
import java.nio.file.Path;
import java.util.ArrayList;
import java.util.Arrays;
import java.util.HashMap;
import java.util.List;
import java.util.Map;
import java.util.TreeSet;
import javax.tools.FileObject;
import javax.tools.ForwardingJavaFileManager;
import javax.tools.JavaCompiler;
import javax.tools.JavaFileManager;
import javax.tools.JavaFileObject;
import javax.tools.SimpleJavaFileObject;
import javax.tools.ToolProvider;

/**
 * Breaks the program in one place at a time, as mutants.txt tells, and looks whether the tests that are named
 * there fail. Each test of a sentence has to be named by a mutant. Arguments: the directory of the compiled tests.
 */
public final class Mutants {
    private static final Path SOURCE = Path.of("src/main/java/PileMaps.java");
    private static final Path TABLE = Path.of("src/mutants/mutants.txt");
    private static final long SECONDS = 30;

    private static final class Mutant {
        final List<String> tests = new ArrayList<>();
        final StringBuilder before = new StringBuilder();
        final StringBuilder after = new StringBuilder();
    }

    /** What has been compiled, by the names of the classes. */
    private static final class Memory extends ForwardingJavaFileManager<JavaFileManager> {
        final Map<String, ByteArrayOutputStream> classes = new HashMap<>();

        Memory(JavaFileManager files) {
            super(files);
        }

        @Override
        public JavaFileObject getJavaFileForOutput(Location place, String name, JavaFileObject.Kind kind, FileObject of) {
            return new SimpleJavaFileObject(URI.create("memory:///" + name + ".class"), kind) {
                @Override
                public OutputStream openOutputStream() {
                    ByteArrayOutputStream bytes = new ByteArrayOutputStream();
                    classes.put(name, bytes);
                    return bytes;
                }
            };
        }
    }

    /** The compiled tests with a program from the memory. */
    private static final class Loader extends URLClassLoader {
        private final Map<String, ByteArrayOutputStream> classes;

        Loader(URL tests, Map<String, ByteArrayOutputStream> classes) {
            super(new URL[] {tests}, ClassLoader.getPlatformClassLoader());
            this.classes = classes;
        }

        @Override
        protected Class<?> findClass(String name) throws ClassNotFoundException {
            ByteArrayOutputStream bytes = classes.get(name);
            return bytes == null ? super.findClass(name) : defineClass(name, bytes.toByteArray(), 0, bytes.size());
        }
    }

    public static void main(String[] args) throws Exception {
        String program = plain(Files.readString(SOURCE));
        URL tests = Path.of(args[0]).toUri().toURL();
        TreeSet<String> without = new TreeSet<>(testNames(tests, compiled(program)));
        int wrong = 0;
        List<Mutant> mutants = read();
        for (Mutant mutant : mutants) {
            without.removeAll(mutant.tests);
            String fate = fate(mutant, program, tests);
            if (!fate.isEmpty()) {
                wrong++;
                System.out.println(fate + "\n    - " + mutant.before + "\n    + " + mutant.after);
            }
        }
        without.forEach(test -> System.out.println("no mutant for " + test));
        System.out.println(mutants.size() + " mutants, " + wrong + " of them not caught, "
            + without.size() + " tests without one");
        System.exit(wrong + without.size() == 0 ? 0 : 1);
    }

    /** Empty if all is well: the mutant can be compiled, and each test that is named fails. */
    private static String fate(Mutant mutant, String program, URL tests) throws Exception {
        String before = mutant.before.toString();
        int at = program.indexOf(before);
        if (before.isEmpty() || at < 0 || program.indexOf(before, at + 1) >= 0) {
            return "not there, or more than once:";
        }
        String broken = program.substring(0, at) + mutant.after + program.substring(at + before.length());
        Map<String, ByteArrayOutputStream> classes = compiled(broken);
        if (classes == null) {
            return "can't be compiled:";
        }
        StringBuilder passed = new StringBuilder();
        for (String test : mutant.tests) {
            if (passes(test, tests, classes)) {
                passed.append(" ").append(test);
            }
        }
        return passed.length() == 0 ? "" : "not caught by" + passed + ":";
    }

    private static boolean passes(String test, URL tests, Map<String, ByteArrayOutputStream> classes) throws Exception {
        PrintStream out = System.out;
        boolean[] passed = {false};
        Thread thread = new Thread(() -> passed[0] = runs(test, tests, classes));
        thread.setDaemon(true);
        try {
            System.setOut(new PrintStream(OutputStream.nullOutputStream()));
            thread.start();
            thread.join(SECONDS * 1000);
        } finally {
            System.setOut(out);
        }
        return passed[0];
    }

    private static boolean runs(String test, URL tests, Map<String, ByteArrayOutputStream> classes) {
        try (Loader loader = new Loader(tests, classes)) {
            Method method = Class.forName("BoundaryTest", true, loader).getDeclaredMethod("passes", String.class);
            method.setAccessible(true);
            return (boolean) method.invoke(null, test);
        } catch (ReflectiveOperationException | java.io.IOException e) {
            throw new IllegalStateException(e);
        }
    }

    @SuppressWarnings("unchecked")
    private static List<String> testNames(URL tests, Map<String, ByteArrayOutputStream> classes) throws Exception {
        try (Loader loader = new Loader(tests, classes)) {
            Method method = Class.forName("BoundaryTest", true, loader).getDeclaredMethod("names");
            method.setAccessible(true);
            return (List<String>) method.invoke(null);
        }
    }

    /** The program without comments, with one space wherever it has some. */
    private static String plain(String source) {
        return source.replaceAll("(?s)/\\*.*?\\*/", "").replaceAll("//[^\n]*", "").replaceAll("\\s+", " ");
    }

    private static Map<String, ByteArrayOutputStream> compiled(String program) {
        JavaCompiler compiler = ToolProvider.getSystemJavaCompiler();
        Memory memory = new Memory(compiler.getStandardFileManager(null, null, null));
        JavaFileObject source = new SimpleJavaFileObject(URI.create("memory:///PileMaps.java"), JavaFileObject.Kind.SOURCE) {
            @Override
            public CharSequence getCharContent(boolean ignoreEncodingErrors) {
                return program;
            }
        };
        StringBuilder said = new StringBuilder();
        boolean done = compiler.getTask(null, memory, diagnostic -> said.append(diagnostic).append('\n'),
            List.of("--release", "17", "-proc:none"), null, List.of(source)).call();
        if (!done) {
            System.out.print(said);
        }
        return done ? memory.classes : null;
    }

    /** Blocks of lines: "= test test ..", then "- the code that is replaced", then "+ the code in its place". */
    private static List<Mutant> read() throws Exception {
        List<Mutant> all = new ArrayList<>();
        for (String line : Files.readAllLines(TABLE)) {
            if (line.startsWith("= ")) {
                all.add(new Mutant());
                all.get(all.size() - 1).tests.addAll(Arrays.asList(line.substring(2).strip().split(" ")));
            } else if (line.startsWith("- ")) {
                all.get(all.size() - 1).before.append(line.substring(2).strip());
            } else if (line.startsWith("+")) {
                all.get(all.size() - 1).after.append(line.substring(1).strip());
            }
        }
        return all;
    }
}
