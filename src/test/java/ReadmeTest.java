import java.io.IOException;
import java.lang.reflect.Method;
import java.nio.file.Files;
import java.nio.file.Path;
import java.util.ArrayList;
import java.util.List;
import java.util.regex.Matcher;
import java.util.regex.Pattern;

/** README.md: its example answers as it says, its helper is the one used here, and it names every call. */
public final class ReadmeTest {
    private static final Path PAGE = Path.of("README.md");
    private static final Path SELF = Path.of("src/test/java/ReadmeTest.java");
    private static final Pattern CALL = Pattern.compile("x\\.(\\w+)\\(([^)]*)\\); *// (-?\\w+): .*");

    private ReadmeTest() {
    }

    public static void main(String[] args) throws IOException, ReflectiveOperationException {
        List<List<String>> blocks = blocks();
        Check.same("blocks of Java", blocks.size(), 2);
        helper(blocks.get(0));
        example(blocks.get(1));
        names();
        Check.end();
    }

    private static List<List<String>> blocks() throws IOException {
        List<List<String>> blocks = new ArrayList<>();
        boolean inside = false;
        for (String line : Files.readAllLines(PAGE)) {
            if (line.startsWith("```")) {
                inside = line.equals("```java");
                if (inside) {
                    blocks.add(new ArrayList<>());
                }
            } else if (inside) {
                blocks.get(blocks.size() - 1).add(line);
            }
        }
        return blocks;
    }

    private static void helper(List<String> block) throws IOException {
        String self = Files.readString(SELF);
        Check.same("the helper is the one below", self.contains("    " + String.join("\n    ", block) + "\n"), true);
    }

    private static void example(List<String> block) throws ReflectiveOperationException {
        FanParts x = new FanParts();
        int calls = 0;
        StringBuilder text = new StringBuilder();
        for (String line : block) {
            Matcher quoted = Pattern.compile("\"([^\"]*)\"").matcher(line);
            if (quoted.find()) {
                text.append(quoted.group(1));
            }
            Matcher told = Pattern.compile(".*\\); *// (\\d+): .*").matcher(line);
            Matcher call = CALL.matcher(line);
            if (call.matches()) {
                Check.same(line, answer(x, call.group(1), call.group(2)).equals(call.group(3)), true);
                calls++;
            } else if (told.matches()) {
                Check.same(line, tell(x, text.toString()), Integer.parseInt(told.group(1)));
            } else {
                Check.same(line, line.startsWith("FanParts x = new") || line.startsWith("tell(x, "), true);
            }
        }
        Check.same("calls of the example", calls, block.size() - 3);
    }

    private static String answer(FanParts x, String name, String told) throws ReflectiveOperationException {
        String[] numbers = told.isEmpty() ? new String[0] : told.split(", ");
        for (Method method : FanParts.class.getMethods()) {
            Class<?>[] types = method.getParameterTypes();
            if (method.getName().equals(name) && types.length == numbers.length) {
                Object[] values = new Object[types.length];
                for (int i = 0; i < types.length; i++) {
                    values[i] = types[i] == int.class ? (Object) Integer.valueOf(numbers[i]) : (Object) Boolean.valueOf(numbers[i]);
                }
                return String.valueOf(method.invoke(x, values));
            }
        }
        return "no such call";
    }

    private static void names() throws IOException {
        String page = Files.readString(PAGE);
        for (Method method : FanParts.class.getDeclaredMethods()) {
            if (java.lang.reflect.Modifier.isPublic(method.getModifiers())) {
                Check.same("named: " + method.getName(), page.contains("`" + method.getName() + "`"), true);
            }
        }
        for (String file : List.of("TermsTest", "EdgesTest", "PromisesTest", "FaultsTest", "RandomTest", "FaceTest", "LoadTest")) {
            Check.same("told of: " + file, page.contains(file + ".java"), true);
        }
    }

    static int tell(FanParts x, String text) {
        for (int from = 0; from < text.length(); from += 20) {
            int[] numbers = new int[5];
            for (int i = 0; i < 20; i++) {
                int sign = from + i < text.length() ? text.charAt(from + i) : ' ';
                numbers[i / 4] = numbers[i / 4] << 8 | sign;
            }
            x.feed(numbers[0], numbers[1], numbers[2], numbers[3], numbers[4]);
        }
        return x.fan(text.length());
    }
}
