import java.io.IOException;
import java.lang.reflect.Method;
import java.lang.reflect.Modifier;
import java.nio.charset.StandardCharsets;
import java.nio.file.DirectoryStream;
import java.nio.file.Files;
import java.nio.file.Path;
import java.util.regex.Matcher;
import java.util.regex.Pattern;

/** Holds README.md against the class and the tests; it is run from the project's folder. */
public final class ReadmeTest {
    private static final Due DUE = new Due("ReadmeTest");
    private static final Pattern BLOCK = Pattern.compile("(?s)```java\n(.*?)```");
    private static final Pattern CALL = Pattern.compile("x\\.(\\w+)\\((.*?)\\); +// (-?\\d+): .*");
    private static final String NEW = "GreenPath x = new GreenPath();";

    public static void main(String[] args) throws IOException, ReflectiveOperationException {
        String readme = Files.readString(Path.of("README.md"), StandardCharsets.UTF_8);
        int blocks = 0;
        Matcher block = BLOCK.matcher(readme);
        while (block.find()) {
            blocks++;
            runExample("example " + blocks + " ", block.group(1).split("\n"));
        }
        DUE.is("examples", blocks > 0 ? 1 : 0, 1);
        for (Method method : GreenPath.class.getDeclaredMethods()) {
            if (Modifier.isPublic(method.getModifiers())) {
                DUE.is("names " + method.getName(), readme.contains("`" + method.getName() + "`") ? 1 : 0, 1);
            }
        }
        try (DirectoryStream<Path> files = Files.newDirectoryStream(Path.of("src/test/java"), "*Test.java")) {
            for (Path file : files) {
                String name = file.getFileName().toString().replace(".java", "");
                DUE.is("names " + name, readme.contains("| " + name + " |") ? 1 : 0, 1);
            }
        }
        DUE.end();
    }

    private static void runExample(String where, String[] lines) throws ReflectiveOperationException {
        DUE.is(where + "begins", lines[0], NEW);
        GreenPath x = new GreenPath();
        for (int i = 1; i < lines.length; i++) {
            Matcher call = CALL.matcher(lines[i]);
            boolean reads = call.matches();
            DUE.is(where + "can be read: " + lines[i], reads ? 1 : 0, 1);
            if (reads) {
                DUE.is(where + lines[i], answer(x, call.group(1), call.group(2)), Long.parseLong(call.group(3)));
            }
        }
    }

    private static long answer(GreenPath x, String name, String list) throws ReflectiveOperationException {
        String[] words = list.isEmpty() ? new String[0] : list.split(", ");
        for (Method method : GreenPath.class.getMethods()) {
            if (method.getName().equals(name) && method.getParameterCount() == words.length) {
                Object[] arguments = new Object[words.length];
                for (int i = 0; i < words.length; i++) {
                    long value = number(words[i]);
                    // not by ?: , which would make a long of both
                    if (method.getParameterTypes()[i] == long.class) {
                        arguments[i] = value;
                    } else {
                        arguments[i] = (int) value;
                    }
                }
                return ((Number) method.invoke(x, arguments)).longValue();
            }
        }
        throw new NoSuchMethodException(name);
    }

    private static long number(String word) {
        if (word.startsWith("'")) {
            return word.charAt(1);
        }
        return Long.decode(word.replace("L", ""));
    }
}
