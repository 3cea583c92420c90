import java.io.IOException;
import java.lang.reflect.Constructor;
import java.lang.reflect.Field;
import java.lang.reflect.Method;
import java.lang.reflect.Modifier;
import java.nio.file.Files;
import java.nio.file.Path;
import java.util.ArrayList;
import java.util.Arrays;
import java.util.List;
import java.util.Set;
import java.util.TreeSet;
import java.util.regex.Matcher;
import java.util.regex.Pattern;

/** The class has the document's face and keeps to what a machine can see of LANGUAGE.md. */
public final class FaceTest {
    private static final Path SOURCE = Path.of("src/main/java/TrailerYards.java");
    private static final Set<String> LIBRARY =
        Set.of("java.util.Arrays", "java.util.ArrayList", "java.util.List", "java.util.Iterator");

    /* LANGUAGE.md says "some twelve" and "some twenty". */
    private static final int MOST_CLASSES = 14, MOST_FIELDS = 24;

    public static void main(String[] args) throws IOException {
        constants();
        String document = Document.text();
        String face = document.substring(document.indexOf("```java"), document.indexOf("## Terms"));
        methods(face);
        members();
        classesInside();
        words();
        Check.end();
    }

    private static void constants() {
        Check.due("BAD", TrailerYards.BAD, -1);
        Check.due("FULL", TrailerYards.FULL, -2);
        Check.due("FINDING", TrailerYards.FINDING, -3);
        Check.due("STATE", TrailerYards.STATE, -4);
        Check.due("NONE", TrailerYards.NONE, -9);
    }

    private static void methods(String face) {
        Set<String> due = new TreeSet<>();
        Matcher m = Pattern.compile("public (int|long) (\\w+)\\(([^)]*)\\);").matcher(face);
        while (m.find()) {
            List<String> types = new ArrayList<>();
            for (String p : m.group(3).split(",")) {
                if (!p.isBlank()) {
                    types.add(p.trim().split(" ")[0]);
                }
            }
            due.add(m.group(1) + " " + m.group(2) + types);
        }
        Set<String> got = new TreeSet<>();
        for (Method method : TrailerYards.class.getDeclaredMethods()) {
            if (Modifier.isPublic(method.getModifiers())) {
                List<String> types = new ArrayList<>();
                for (Class<?> type : method.getParameterTypes()) {
                    types.add(type.getName());
                }
                got.add(method.getReturnType().getName() + " " + method.getName() + types);
            }
        }
        Check.due("methods of the document", due.size(), 58);
        Check.holds("the methods are the document's: " + got, due.equals(got));
    }

    private static void members() {
        Check.holds("public and final", TrailerYards.class.getModifiers() == (Modifier.PUBLIC | Modifier.FINAL));
        Set<String> seen = new TreeSet<>();
        for (Field f : TrailerYards.class.getDeclaredFields()) {
            if (!Modifier.isPrivate(f.getModifiers())) {
                seen.add(f.getName());
            }
            if (Modifier.isStatic(f.getModifiers())) {
                Check.holds("final " + f.getName(), Modifier.isFinal(f.getModifiers()));
            }
        }
        Check.holds("the constants are the document's: " + seen,
            seen.equals(new TreeSet<>(List.of("BAD", "FULL", "FINDING", "STATE", "NONE"))));
        for (Method m : TrailerYards.class.getDeclaredMethods()) {
            Check.holds("public or private: " + m.getName(),
                Modifier.isPublic(m.getModifiers()) || Modifier.isPrivate(m.getModifiers()));
        }
        Constructor<?>[] constructors = TrailerYards.class.getDeclaredConstructors();
        Check.due("constructors", constructors.length, 1);
        Check.due("its parameters", constructors[0].getParameterCount(), 0);
    }

    private static void classesInside() {
        Set<String> faceNames = new TreeSet<>();
        for (Method m : TrailerYards.class.getDeclaredMethods()) {
            if (Modifier.isPublic(m.getModifiers())) {
                faceNames.add(m.getName());
            }
        }
        Class<?>[] inside = TrailerYards.class.getDeclaredClasses();
        Check.holds("at most some twelve classes", inside.length + 1 <= MOST_CLASSES);
        List<Class<?>> all = new ArrayList<>(Arrays.asList(inside));
        all.add(TrailerYards.class);
        for (Class<?> c : all) {
            Check.holds("static: " + c, c == TrailerYards.class || Modifier.isStatic(c.getModifiers()));
            int fields = 0;
            for (Field f : c.getDeclaredFields()) {
                fields += Modifier.isStatic(f.getModifiers()) ? 0 : 1;
            }
            Check.holds("at most some twenty fields: " + c, fields <= MOST_FIELDS);
            for (Method m : c.getDeclaredMethods()) {
                Check.holds("at most seven parameters: " + m, m.getParameterCount() <= 7);
                Check.holds("no private method with a public one's name: " + m,
                    Modifier.isPublic(m.getModifiers()) || !faceNames.contains(m.getName()));
            }
        }
    }

    private static void words() throws IOException {
        String source = Files.readString(SOURCE);
        for (int i = 0; i < source.length(); i++) {
            if (source.charAt(i) > 127) {
                Check.holds("signs are 1 to 127 at " + i, false);
            }
        }
        String code = source.replaceAll("(?s)/\\*.*?\\*/", "").replaceAll("//[^\n]*", "");
        String[] never = {"\\b(throw|throws|try|catch|finally|synchronized|assert|package|protected)\\b",
            "\\bhashCode\\b", "\\w+Exact\\b", "\\bSystem\\.(?!arraycopy\\b)", "::", "\\bnew \\w+\\([^)]*\\) *\\{"};
        for (String pattern : never) {
            Check.holds("without " + pattern, !Pattern.compile(pattern).matcher(code).find());
        }
        for (String line : code.split("\n")) {
            boolean isCase = line.trim().startsWith("case ") || line.trim().startsWith("default ");
            Check.holds("no lambda in " + line.trim(), isCase || !line.contains("->"));
        }
        Matcher imports = Pattern.compile("import ([^;]+);").matcher(code);
        while (imports.find()) {
            Check.holds("import of " + imports.group(1), LIBRARY.contains(imports.group(1)));
        }
    }
}
