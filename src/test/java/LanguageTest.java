import java.io.IOException;
import java.nio.charset.StandardCharsets;
import java.nio.file.Files;
import java.nio.file.Path;
import java.util.ArrayList;
import java.util.List;
import java.util.regex.Matcher;
import java.util.regex.Pattern;

/** Those rules of LANGUAGE.md that can be seen from the program's words; it is run from the project's folder. */
public final class LanguageTest {
    private static final Due DUE = new Due("LanguageTest");
    private static final String FACE = "be of law fence ofPair as feed text gives meet chance reach way can reached stays bars "
        + "ways allWays fences was force seed voice trace sheet put move judge image restore tell check count told";

    public static void main(String[] args) throws IOException {
        String source = Files.readString(Path.of("src/main/java/GreenPath.java"), StandardCharsets.UTF_8);
        DUE.is("signs beyond 127", source.chars().filter(sign -> sign > 127).count(), 0);
        String words = source.replaceAll("(?s)/\\*.*?\\*/", " ").replaceAll("//[^\n]*", " ")
            .replaceAll("\"[^\"\n]*\"", "\"\"").replaceAll("'.'", "' '");
        absent(words, "throw", "try", "catch", "finally", "synchronized", "assert", "volatile", "native", "protected",
            "package", "Object", "System\\.out", "hashCode", "toString", "Exact");
        DUE.is("lambdas", count(words, "->|::"), 0);
        DUE.is("annotations", count(words, "@"), 0);
        DUE.is("imports", count(words, "\\bimport\\b"), count(words, "import java\\.util\\.(Arrays|ArrayList|List);"));
        DUE.is("classes", count(words, "\\b(class|interface|enum|record) [A-Z]") <= 12 ? 1 : 0, 1);
        DUE.is("classes inside are static", count(words, "\\bclass "), 1 + count(words, "private static (final )?class "));
        DUE.is("static fields are final", count(words, "\\bstatic (?!final )[\\w\\[\\]]+ \\w+ *[=;]"), 0);
        theFace(words);
        DUE.end();
    }

    private static int count(String words, String pattern) {
        Matcher matcher = Pattern.compile(pattern).matcher(words);
        int many = 0;
        while (matcher.find()) {
            many++;
        }
        return many;
    }

    private static void absent(String words, String... patterns) {
        for (String pattern : patterns) {
            DUE.is(pattern, count(words, "\\b" + pattern + "\\b|\\w" + pattern + "\\("), 0);
        }
    }

    /** Each method of the face stands once, is public, and lends its name to no other. */
    private static void theFace(String words) {
        List<String> face = new ArrayList<>(List.of(FACE.split(" ")));
        DUE.is("public", count(words, "\\bpublic\\b"), face.size() + 2);
        Matcher matcher = Pattern.compile("(?m)^ +(public |private )?(static )?[\\w\\[\\]]+ (\\w+)\\([^;{]*\\) \\{").matcher(words);
        while (matcher.find()) {
            String name = matcher.group(3);
            boolean isPublic = "public ".equals(matcher.group(1));
            if (!List.of("if", "for", "while", "switch").contains(name)) {
                DUE.is("name of " + name, FACE.matches("(.* )?" + name + "( .*)?") ? 1 : 0, isPublic ? 1 : 0);
                face.remove(name);
            }
        }
        DUE.is("missing " + face, face.size(), 0);
    }
}
