import java.io.IOException;
import java.lang.reflect.Constructor;
import java.lang.reflect.Field;
import java.lang.reflect.Method;
import java.lang.reflect.Modifier;
import java.nio.file.Files;
import java.nio.file.Path;
import java.util.Arrays;
import java.util.List;
import java.util.Set;
import java.util.TreeSet;

/** The public face is the document's, and the source keeps to what of LANGUAGE.md can be looked up. */
public final class FaceTest {
    private static final Path DOCUMENT = Path.of("../shared/DOC.md");
    private static final Path SOURCE = Path.of("src/main/java/FanParts.java");

    private FaceTest() {
    }

    public static void main(String[] args) throws IOException {
        methods();
        members();
        nested();
        constructorsTakeNothing();
        source();
        Check.end();
    }

    private static void methods() throws IOException {
        Set<String> due = new TreeSet<>();
        for (String line : Files.readAllLines(DOCUMENT)) {
            if (line.startsWith("    public ") && line.contains("(") && !line.contains("FanParts(")) {
                due.add(line.strip().replaceAll(" [a-z]+([,)])", "$1").replace("public ", "").replaceAll("\\).*", ")"));
            }
        }
        Set<String> got = new TreeSet<>();
        for (Method method : FanParts.class.getDeclaredMethods()) {
            if (Modifier.isPublic(method.getModifiers())) {
                List<String> types = Arrays.stream(method.getParameterTypes()).map(Class::getSimpleName).toList();
                got.add(method.getReturnType().getSimpleName() + " " + method.getName() + "(" + String.join(", ", types) + ")");
            }
        }
        Check.same("the document's methods are read", due.size(), 50);
        Check.same("methods " + got + ", due are " + due, got.equals(due), true);
    }

    private static void members() {
        Check.same("public and final", FanParts.class.getModifiers(), Modifier.PUBLIC | Modifier.FINAL);
        Set<String> names = new TreeSet<>();
        for (Method method : FanParts.class.getDeclaredMethods()) {
            if (!Modifier.isPublic(method.getModifiers())) {
                Check.same(method.getName() + " is private", Modifier.isPrivate(method.getModifiers()), true);
            } else {
                names.add(method.getName());
            }
        }
        for (Method method : FanParts.class.getDeclaredMethods()) {
            if (!Modifier.isPublic(method.getModifiers())) {
                Check.same(method.getName() + " is no name of the face", names.contains(method.getName()), false);
            }
        }
        for (Field field : FanParts.class.getDeclaredFields()) {
            boolean none = field.getName().equals("NONE");
            Check.same(field.getName() + " is private", Modifier.isPrivate(field.getModifiers()), !none);
            boolean constant = Modifier.isStatic(field.getModifiers());
            Check.same(field.getName() + " is final if static", !constant || Modifier.isFinal(field.getModifiers()), true);
        }
        Constructor<?>[] constructors = FanParts.class.getDeclaredConstructors();
        Check.same("one constructor", constructors.length, 1);
        Check.same("it is public", Modifier.isPublic(constructors[0].getModifiers()), true);
    }

    private static void nested() {
        Class<?>[] classes = FanParts.class.getDeclaredClasses();
        Check.same("at most twelve classes", classes.length <= 11, true);
        for (Class<?> inside : classes) {
            Check.same(inside + " is static", Modifier.isStatic(inside.getModifiers()), true);
            int fields = 0;
            for (Field field : inside.getDeclaredFields()) {
                fields += Modifier.isStatic(field.getModifiers()) ? 0 : 1;
            }
            Check.same(inside + " has at most twenty fields", fields <= 20, true);
            for (Method method : inside.getDeclaredMethods()) {
                Check.same(method + " has at most seven parameters", method.getParameterCount() <= 7, true);
                Check.same(method + " bears no name of the face", isOfFace(method.getName()), false);
            }
        }
    }

    // A method begins with a line that opens it, and ends with a brace as far in.
    private static void methodsAreShort(List<String> lines) {
        int methods = 0;
        for (int i = 0; i < lines.size(); i++) {
            String line = lines.get(i);
            if (line.matches("( {4}| {8})[A-Za-z].*\\) (throws \\w+ )?\\{") && !line.matches(" *(if|for|while|switch) .*")) {
                int end = i;
                String close = line.replaceAll("\\S.*", "}");
                while (end < lines.size() && !lines.get(end).equals(close)) {
                    end++;
                }
                methods++;
                Check.same("at most sixty lines: " + line.strip(), end - i <= 60, true);
            }
        }
        Check.same("methods are found", methods > 100, true);
    }

    private static boolean isOfFace(String name) {
        return Arrays.stream(FanParts.class.getMethods())
            .anyMatch(method -> method.getDeclaringClass() == FanParts.class && method.getName().equals(name));
    }

    // A constructor could hand out nothing of its object, as none takes anything.
    private static void constructorsTakeNothing() {
        for (Class<?> inside : FanParts.class.getDeclaredClasses()) {
            for (Constructor<?> constructor : inside.getDeclaredConstructors()) {
                Check.same(constructor + " takes nothing", constructor.getParameterCount(), 0);
            }
        }
    }

    private static void source() throws IOException {
        String text = Files.readString(SOURCE);
        methodsAreShort(Files.readAllLines(SOURCE));
        for (String word : List.of("catch", "finally", "synchronized", "assert", "->", "::", "Exact(", "Object ", "System.out",
                "getMessage", "hashCode", "static {", "package ", "protected ")) {
            Check.same("the source holds " + word, text.contains(word), false);
        }
        for (String line : text.split("\n")) {
            if (line.startsWith("import ")) {
                Check.same(line, line.equals("import java.util.NoSuchElementException;"), true);
            }
            Check.same("a throw: " + line, !line.contains("throw new") || line.contains("NoSuchElementException()"), true);
        }
        for (int i = 0; i < text.length(); i++) {
            Check.same("a sign beyond 127", text.charAt(i) < 128, true);
        }
    }
}
