import java.io.IOException;
import java.lang.reflect.Constructor;
import java.lang.reflect.Field;
import java.lang.reflect.Method;
import java.lang.reflect.Modifier;
import java.nio.file.Files;
import java.nio.file.Path;
import java.util.ArrayList;
import java.util.Arrays;
import java.util.List;
import java.util.Set;
import java.util.TreeSet;
import java.util.regex.Matcher;
import java.util.regex.Pattern;

/** The public face, and what of LANGUAGE.md can be read off the class and its source. */
public final class FaceTest {
    private static final Check CHECK = new Check("FaceTest");
    private static final Path SOURCE = Path.of("src/main/java/NetsCut.java");
    private static final String FACE = """
        boolean clock(1); int depth(3); int ship(4); int report(5); int where(3); int chain(2); int chained(1);
        int point(3); boolean chart(2); int reach(2); int within(5); long inside(4); int beside(2); int feed(5);
        int end(1); int statute(2); int inForce(2); int may(6); long mesh(5); int by(6); int act(5); int kept(2);
        int broken(2); int hook(6); int hooks(0); int way(4); boolean office(3); int year(3); long stock(2);
        int fails(1); int agree(2); boolean age(4); long landed(5); int pays(5); int town(4); int bar(3);
        int lost(2); int yields(1); int sideYields(1); int term(2); int sign(2); int box(3); int escort(2);
        int escorts(1); int count(1)""";

    public static void main(String[] args) throws IOException, IllegalAccessException {
        face();
        nested();
        source();
        room();
        CHECK.end();
    }

    private static void face() {
        Set<String> want = new TreeSet<>();
        for (String one : FACE.split(";")) {
            want.add(one.trim());
        }
        Set<String> got = new TreeSet<>();
        Set<String> names = new TreeSet<>();
        for (Method m : NetsCut.class.getDeclaredMethods()) {
            if (Modifier.isPublic(m.getModifiers())) {
                got.add(m.getReturnType() + " " + m.getName() + "(" + m.getParameterCount() + ")");
                names.add(m.getName());
                for (Class<?> type : m.getParameterTypes()) {
                    CHECK.due("arguments of " + m.getName(), type == int.class, true);
                }
            }
        }
        CHECK.due("the face " + got, got.equals(want), true);
        CHECK.due("final", Modifier.isFinal(NetsCut.class.getModifiers()), true);
        for (Method m : NetsCut.class.getDeclaredMethods()) {
            boolean hidden = Modifier.isPrivate(m.getModifiers()) && !names.contains(m.getName());
            CHECK.due(m.getName(), hidden || Modifier.isPublic(m.getModifiers()), true);
        }
        for (Class<?> c : NetsCut.class.getDeclaredClasses()) {
            for (Method m : c.getDeclaredMethods()) {
                CHECK.due(m + " bears a name of its own", !names.contains(m.getName()), true);
            }
        }
        for (Field f : NetsCut.class.getDeclaredFields()) {
            CHECK.due(f.getName(), Modifier.isPrivate(f.getModifiers()) || f.getName().equals("NONE"), true);
        }
        for (Constructor<?> c : NetsCut.class.getDeclaredConstructors()) {
            CHECK.due("constructor", Modifier.isPublic(c.getModifiers()) && c.getParameterCount() == 0, true);
        }
        CHECK.due("NONE", NetsCut.NONE, -1);
    }

    private static void nested() {
        CHECK.due("at most twelve classes", NetsCut.class.getDeclaredClasses().length <= 11, true);
        List<Class<?>> all = new ArrayList<>(Arrays.asList(NetsCut.class.getDeclaredClasses()));
        all.add(NetsCut.class);
        for (Class<?> c : all) {
            CHECK.due(c + " is static", c == NetsCut.class || Modifier.isStatic(c.getModifiers()), true);
            int fields = 0;
            for (Field f : c.getDeclaredFields()) {
                boolean constant = Modifier.isStatic(f.getModifiers());
                fields += constant ? 0 : 1;
                CHECK.due(f + " is final", !constant || Modifier.isFinal(f.getModifiers()), true);
            }
            CHECK.due(c + " has few fields", fields <= 20, true);
            for (Method m : c.getDeclaredMethods()) {
                CHECK.due(m + " has few parameters", m.getParameterCount() <= 7, true);
            }
        }
    }

    private static void source() throws IOException {
        String text = Files.readString(SOURCE);
        String code = text.replaceAll("(?s)/\\*.*?\\*/", " ").replaceAll("//[^\n]*", " ");
        String words = "throw|try|catch|synchronized|assert|static \\{|->|::|Exact|double|float|Object|import java(?!.util.Arrays;)";
        Matcher m = Pattern.compile("\\b(" + words + ")\\b|->|::").matcher(code);
        while (m.find()) {
            CHECK.due("'" + m.group() + "' in the source", 1, 0);
        }
        int length = 0;
        for (String line : text.split("\n")) {
            boolean begins = line.matches(" {4}(    )?[a-z].*\\) \\{");
            length = begins ? 0 : length + 1;
            boolean ends = line.equals("    }") || line.equals("        }");
            CHECK.due("a method of " + length + " lines", ends && length > 60 && length < 200, false);
        }
    }

    /** All objects of a run share one room, so a new object must stay small. */
    private static void room() throws IllegalAccessException {
        NetsCut x = new NetsCut();
        int[] sizes = new int[2];
        measure(x, sizes);
        System.out.println("FaceTest: a new object makes " + sizes[0] + " objects with " + sizes[1] + " fields and elements");
        CHECK.due("few objects", sizes[0] <= 100, true);
        CHECK.due("few elements", sizes[1] <= 12000, true);
    }

    private static void measure(Object o, int[] sizes) throws IllegalAccessException {
        sizes[0]++;
        for (Field f : o.getClass().getDeclaredFields()) {
            if (Modifier.isStatic(f.getModifiers())) {
                continue;
            }
            sizes[1]++;
            f.setAccessible(true);
            Object part = f.get(o);
            if (f.getType().isArray()) {
                sizes[0]++;
                sizes[1] += java.lang.reflect.Array.getLength(part);
            } else if (!f.getType().isPrimitive() && !f.getName().equals("law") || o instanceof NetsCut && f.getName().equals("law")) {
                measure(part, sizes);
            }
        }
    }
}
