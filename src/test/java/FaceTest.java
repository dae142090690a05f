import java.lang.reflect.Constructor;
import java.lang.reflect.Field;
import java.lang.reflect.Method;
import java.lang.reflect.Modifier;
import java.nio.file.Files;
import java.nio.file.Path;
import java.util.Set;
import java.util.TreeSet;
import java.util.stream.Collectors;

/** The public face is the document's, and the class keeps to the rules of LANGUAGE.md that can be seen. */
public final class FaceTest {
    private static final Check CHECK = new Check();

    public static void main(String[] args) throws Exception {
        Path root = Path.of(System.getProperty("project.root", "."));
        theFace(Files.readString(root.resolve("../shared/DOC.md")));
        membersOfTheClass();
        int classes = 1;
        for (Class<?> inside : SaltedGate.class.getDeclaredClasses()) {
            classInside(inside);
            classes++;
        }
        CHECK.due("some twelve classes", classes <= 13, true);
        theSource(Files.readString(root.resolve("src/main/java/SaltedGate.java")));
        CHECK.end();
    }

    private static void theFace(String document) {
        String face = document.substring(document.indexOf("public final class SaltedGate {"));
        face = face.substring(0, face.indexOf("\n}"));
        Set<String> wanted = new TreeSet<>();
        for (String line : face.split("\n")) {
            if (line.startsWith("    public ") && line.contains("(")) {
                wanted.add(line.trim().replaceAll("(int|boolean|long) \\w+([,)])", "$1$2").replace(";", ""));
            }
        }
        Set<String> there = new TreeSet<>();
        for (Method method : SaltedGate.class.getDeclaredMethods()) {
            if (!Modifier.isPrivate(method.getModifiers())) {
                there.add(method.toString().replace("SaltedGate.", "").replace("java.util.", "").replace(",", ", "));
            }
        }
        for (Constructor<?> constructor : SaltedGate.class.getDeclaredConstructors()) {
            there.add(constructor.toString());
        }
        CHECK.due("calls of the face " + difference(wanted, there), wanted.equals(there), true);
        CHECK.due("how many", there.size(), 51);
    }

    private static String difference(Set<String> wanted, Set<String> there) {
        Set<String> missing = new TreeSet<>(wanted);
        missing.removeAll(there);
        Set<String> more = new TreeSet<>(there);
        more.removeAll(wanted);
        return missing + " for " + more;
    }

    private static void membersOfTheClass() {
        int modifiers = SaltedGate.class.getModifiers();
        CHECK.due("public and final", Modifier.isPublic(modifiers) && Modifier.isFinal(modifiers), true);
        for (Field field : SaltedGate.class.getDeclaredFields()) {
            boolean isPrivate = Modifier.isPrivate(field.getModifiers());
            CHECK.due(field + " is private", isPrivate || field.getName().equals("NONE"), true);
        }
        fields(SaltedGate.class);
        methods(SaltedGate.class);
    }

    private static void classInside(Class<?> inside) {
        int modifiers = inside.getModifiers();
        CHECK.due(inside + " is private", Modifier.isPrivate(modifiers), true);
        CHECK.due(inside + " is static", Modifier.isStatic(modifiers), true);
        CHECK.due(inside + " has no class inside", inside.getDeclaredClasses().length, 0);
        fields(inside);
        methods(inside);
    }

    private static void fields(Class<?> of) {
        int many = 0;
        for (Field field : of.getDeclaredFields()) {
            if (Modifier.isStatic(field.getModifiers())) {
                CHECK.due(field + " is final", Modifier.isFinal(field.getModifiers()), true);
            } else {
                many++;
            }
        }
        CHECK.due(of + " has some twenty fields", many <= 20, true);
    }

    private static void methods(Class<?> of) {
        Set<String> face = Set.of(SaltedGate.class.getDeclaredMethods()).stream()
                .filter(method -> Modifier.isPublic(method.getModifiers()))
                .map(Method::getName).collect(Collectors.toSet());
        for (Method method : of.getDeclaredMethods()) {
            CHECK.due(method + ": seven parameters", method.getParameterCount() <= 7, true);
            boolean hidden = Modifier.isPrivate(method.getModifiers());
            CHECK.due(method + " bears a public name", hidden && face.contains(method.getName()), false);
        }
    }

    private static void theSource(String source) {
        for (String line : source.split("\n")) {
            String code = line.replaceAll("//.*|^\\s*/?\\*.*", "");
            CHECK.due("import: " + line, code.startsWith("import")
                    && !code.equals("import java.util.NoSuchElementException;"), false);
            for (String word : new String[] {"catch", "try", "finally", "assert", "synchronized", "package",
                "->", "::", "Exact", "System.", "Random", "instanceof", "float", "double"}) {
                CHECK.due(word + " in: " + line, code.contains(word), false);
            }
        }
        lengths(source);
    }

    /** A method ends at the brace that stands as far in as its first line does. */
    private static void lengths(String source) {
        String[] lines = source.split("\n");
        int methods = 0;
        for (int i = 0; i < lines.length; i++) {
            if (!lines[i].matches("( {4}| {8})(public|private) .*\\(.*\\{")) {
                continue;
            }
            String end = lines[i].replaceAll("\\S.*", "") + "}";
            int last = i;
            while (last < lines.length && !lines[last].equals(end)) {
                last++;
            }
            methods++;
            CHECK.due("some sixty lines: " + lines[i].trim(), last - i < 60, true);
        }
        CHECK.due("methods were seen: " + methods, methods > 100, true);
    }
}
