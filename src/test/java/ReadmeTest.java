import java.io.IOException;
import java.lang.reflect.InvocationTargetException;
import java.lang.reflect.Method;
import java.lang.reflect.Modifier;
import java.nio.file.DirectoryStream;
import java.nio.file.Files;
import java.nio.file.Path;
import java.util.List;
import java.util.regex.Matcher;
import java.util.regex.Pattern;

/** What README.md says is so: its run of calls answers what stands behind them, and it names all calls and tests. */
public final class ReadmeTest {
    private static final Expect DUE = new Expect();
    private static final Pattern CALL =
            Pattern.compile("shop\\.(\\w+)\\(([^)]*)\\);\\s+// (true|false|-?\\d+|throws \\w+)(: .*)?");

    public static void main(String[] args) throws IOException, ReflectiveOperationException {
        List<String> lines = Files.readAllLines(Path.of("README.md"));
        run(lines);
        namesCalls(lines);
        namesTests(String.join("\n", lines));
        DUE.end("ReadmeTest");
    }

    private static void run(List<String> lines) throws ReflectiveOperationException {
        StairShop shop = null;
        boolean code = false;
        for (String line : lines) {
            if (line.startsWith("```")) {
                code = line.equals("```java");
            } else if (code && line.startsWith("StairShop shop = new StairShop();")) {
                shop = new StairShop();
            } else if (code) {
                ask(shop, line);
            }
        }
    }

    private static void ask(StairShop shop, String line) throws ReflectiveOperationException {
        Matcher call = CALL.matcher(line);
        boolean asked = shop != null && call.matches();
        DUE.yes("a line that can be asked: " + line, asked);
        if (asked) {
            String got = answer(shop, call.group(1), call.group(2));
            DUE.yes(line + " answered " + got, got.equals(call.group(3)));
        }
    }

    private static String answer(StairShop shop, String name, String list) throws ReflectiveOperationException {
        String[] texts = list.isEmpty() ? new String[0] : list.split(", ");
        Class<?>[] types = new Class<?>[texts.length];
        Object[] numbers = new Object[texts.length];
        for (int i = 0; i < texts.length; i++) {
            types[i] = int.class;
            numbers[i] = Integer.decode(texts[i]);
        }
        try {
            return String.valueOf(StairShop.class.getMethod(name, types).invoke(shop, numbers));
        } catch (InvocationTargetException e) {
            return "throws " + e.getCause().getClass().getSimpleName();
        }
    }

    private static void namesCalls(List<String> lines) {
        for (Method call : StairShop.class.getDeclaredMethods()) {
            if (Modifier.isPublic(call.getModifiers())) {
                String used = "shop." + call.getName() + "(";
                DUE.yes(used + " is shown", lines.stream().anyMatch(line -> line.startsWith(used)));
            }
        }
    }

    private static void namesTests(String page) throws IOException {
        try (DirectoryStream<Path> files = Files.newDirectoryStream(Path.of("src/test/java"), "*.java")) {
            for (Path file : files) {
                String name = file.getFileName().toString().replace(".java", "");
                DUE.yes(name + " is named", page.contains("`" + name + "`"));
            }
        }
    }
}
