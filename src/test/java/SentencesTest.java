import java.io.IOException;
import java.nio.charset.StandardCharsets;
import java.nio.file.DirectoryStream;
import java.nio.file.Files;
import java.nio.file.Path;
import java.util.ArrayList;
import java.util.LinkedHashMap;
import java.util.List;
import java.util.Map;
import java.util.regex.Matcher;
import java.util.regex.Pattern;

/**
 * Holds the tests of edges against the document: what they quote (by says) stands where they say, and nothing of the Terms
 * and of the promises is left unquoted. It is run from the project's folder.
 */
public final class SentencesTest {
    private static final Due DUE = new Due("SentencesTest");
    private static final Pattern QUOTE = Pattern.compile("says\\(\\s*\"([^\"]*)\",\\s*((?:\"[^\"]*\"\\s*\\+?\\s*)+)\\)");

    public static void main(String[] args) throws IOException {
        Map<String, String> sections = sections();
        Map<String, List<String>> quotes = quotes();
        DUE.is("promises", sections.keySet().stream().filter(name -> name.startsWith("Promise")).count(), 36);
        for (Map.Entry<String, List<String>> entry : quotes.entrySet()) {
            String section = sections.getOrDefault(entry.getKey(), "");
            for (String quote : entry.getValue()) {
                DUE.is(entry.getKey() + " has: " + quote, section.contains(quote) ? 1 : 0, 1);
            }
        }
        for (Map.Entry<String, String> entry : sections.entrySet()) {
            if (!entry.getKey().equals("What it is")) {
                String left = unquoted(entry.getValue(), quotes.getOrDefault(entry.getKey(), List.of()));
                DUE.is(entry.getKey() + " unquoted", left, "");
            }
        }
        DUE.end();
    }

    /** The document's sections by their names ("Promise 2"), each without what isn't promised in words. */
    private static Map<String, String> sections() throws IOException {
        String doc = Files.readString(Path.of("../shared/DOC.md"), StandardCharsets.UTF_8);
        Map<String, String> sections = new LinkedHashMap<>();
        for (String part : doc.split("(?m)^## ")) {
            int end = part.indexOf('\n');
            String name = end < 0 ? part : part.substring(0, end).replaceAll(":.*", "").trim();
            if (name.equals("What it is") || name.equals("Terms") || name.startsWith("Promise ")) {
                String words = part.substring(end + 1).replaceAll("(?m)^Ahead of the calls .*$", " ")
                    .replaceAll("(?m)^```.*$", " ").replaceAll("(?m)^\\d\\. ", " ").replaceAll("(?m)^`[^`]*`:", " ");
                sections.put(name, words.replaceAll("\\s+", " ").trim());
            }
        }
        return sections;
    }

    private static Map<String, List<String>> quotes() throws IOException {
        Map<String, List<String>> quotes = new LinkedHashMap<>();
        try (DirectoryStream<Path> files = Files.newDirectoryStream(Path.of("src/test/java"), "Edges*.java")) {
            for (Path file : files) {
                Matcher matcher = QUOTE.matcher(Files.readString(file, StandardCharsets.UTF_8));
                while (matcher.find()) {
                    String words = matcher.group(2).replaceAll("\"\\s*\\+\\s*\"", "").trim();
                    words = words.substring(1, words.length() - 1);
                    quotes.computeIfAbsent(matcher.group(1), name -> new ArrayList<>()).add(words);
                }
            }
        }
        return quotes;
    }

    /** What is left of a section's words without the quotes, the longest of them first, as they may overlap. */
    private static String unquoted(String section, List<String> quotes) {
        List<String> longest = new ArrayList<>(quotes);
        longest.sort((one, other) -> other.length() - one.length());
        String left = section;
        for (String quote : longest) {
            left = left.replace(quote, " ");
        }
        return left.replaceAll("\\s+", " ").trim();
    }
}
