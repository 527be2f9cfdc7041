import java.io.ByteArrayOutputStream;
import java.io.IOException;
import java.io.PrintStream;
import java.lang.reflect.Method;
import java.lang.reflect.Modifier;
import java.net.URL;
import java.net.URLClassLoader;
import java.nio.file.Files;
import java.nio.file.Path;
import java.util.Comparator;
import java.util.List;
import java.util.regex.Matcher;
import java.util.regex.Pattern;
import java.util.stream.Stream;
import javax.tools.JavaCompiler;
import javax.tools.ToolProvider;

/** README.md: its program compiles and prints what the page says, and no call and no test is left out. */
public final class ReadmeTest {
    private static final Check CHECK = new Check("ReadmeTest");
    private static final Path PAGE = Path.of("README.md");
    private static final Path TESTS = Path.of("src/test/java");

    public static void main(String[] args) throws IOException, ReflectiveOperationException {
        String page = Files.readString(PAGE);
        String program = block(page, "java");
        String printed = run(program).replace(System.lineSeparator(), "\n");
        if (!printed.equals(block(page, "text"))) {
            System.out.println("ReadmeTest: the program of README.md prints\n" + printed);
        }
        CHECK.due("what the program prints", printed.equals(block(page, "text")), true);
        allCallsAreNamed(page);
        allTestsAreNamed(page);
        allFilesAreThere(page);
        CHECK.end();
    }

    private static String block(String page, String kind) {
        Matcher m = Pattern.compile("```" + kind + "\n(.*?)```", Pattern.DOTALL).matcher(page);
        CHECK.due("a block of " + kind, m.find(), true);
        return m.group(1);
    }

    private static String run(String program) throws IOException, ReflectiveOperationException {
        Matcher name = Pattern.compile("public final class (\\w+)").matcher(program);
        CHECK.due("a class", name.find(), true);
        Path folder = Files.createTempDirectory("readme");
        try {
            Path source = Files.writeString(folder.resolve(name.group(1) + ".java"), program);
            JavaCompiler compiler = ToolProvider.getSystemJavaCompiler();
            int answer = compiler.run(null, null, null, "-Xlint:all", "-Werror", "-cp", System.getProperty("java.class.path"),
                    "-d", folder.toString(), source.toString());
            CHECK.due("the program compiles", answer, 0);
            return printedBy(folder, name.group(1));
        } finally {
            remove(folder);
        }
    }

    private static String printedBy(Path folder, String name) throws IOException, ReflectiveOperationException {
        PrintStream screen = System.out;
        ByteArrayOutputStream printed = new ByteArrayOutputStream();
        try (URLClassLoader loader = new URLClassLoader(new URL[] {folder.toUri().toURL()})) {
            System.setOut(new PrintStream(printed, true));
            Method main = loader.loadClass(name).getMethod("main", String[].class);
            main.invoke(null, (Object) new String[0]);
        } finally {
            System.setOut(screen);
        }
        return printed.toString();
    }

    private static void remove(Path folder) throws IOException {
        try (Stream<Path> files = Files.walk(folder)) {
            for (Path file : files.sorted(Comparator.reverseOrder()).toList()) {
                Files.delete(file);
            }
        }
    }

    private static void allCallsAreNamed(String page) {
        for (Method method : NetsCut.class.getDeclaredMethods()) {
            if (Modifier.isPublic(method.getModifiers())) {
                CHECK.due(method.getName() + " is named", page.contains("`" + method.getName() + "`"), true);
            }
        }
    }

    private static void allTestsAreNamed(String page) throws IOException {
        try (Stream<Path> files = Files.list(TESTS)) {
            List<String> names = files.map(file -> file.getFileName().toString().replace(".java", "")).toList();
            for (String name : names) {
                CHECK.due(name + " is named", Pattern.compile("\\b" + name + "\\b").matcher(page).find(), true);
            }
        }
    }

    /** Files of the project that the page's commands use; those of ../shared are not ours to promise. */
    private static void allFilesAreThere(String page) {
        Matcher m = Pattern.compile("(?<![\\w./])(?:src/[\\w/]+\\.java|\\.ci/run)").matcher(page);
        int found = 0;
        while (m.find()) {
            found++;
            CHECK.due(m.group() + " is there", Files.isRegularFile(Path.of(m.group())), true);
        }
        CHECK.due("files are named", found > 0, true);
    }
}
