import java.io.IOException;
import java.nio.file.Files;
import java.nio.file.Path;
import java.util.LinkedHashMap;
import java.util.Map;
import java.util.regex.Matcher;
import java.util.regex.Pattern;

/** The document by its parts ("Terms I" to "Terms IV", "Promise 1" to "Promise 30"), each in one line. */
final class Doc {
    private static final Path PLACE = Path.of("../shared/DOC.md");
    private static Map<String, String> parts;

    private Doc() {
    }

    static Map<String, String> parts() {
        if (parts == null) {
            parts = read();
        }
        return parts;
    }

    static boolean says(String part, String sentence) {
        return parts().isEmpty() || parts().getOrDefault(part, "").contains(sentence);
    }

    private static Map<String, String> read() {
        Map<String, String> found = new LinkedHashMap<>();
        if (!Files.exists(PLACE)) {
            return found;
        }
        try {
            String text = Files.readString(PLACE);
            Matcher promises = Pattern.compile("(?s)## (Promise \\d+):[^\n]*\n(.*?)(?=\n## )").matcher(text);
            while (promises.find()) {
                found.put(promises.group(1), oneLine(promises.group(2).replaceFirst("^\\s*`[^`]*`: ", "")));
            }
            Matcher terms = Pattern.compile("(?s)\n(I|II|III|IV)\\. (.*?)(?=\n(?:II|III|IV)\\. |\nThe constants)").matcher(text);
            while (terms.find()) {
                found.put("Terms " + terms.group(1), oneLine(terms.group(2).replaceAll("```(text)?", " ")));
            }
        } catch (IOException e) {
            throw new IllegalStateException(e);
        }
        return found;
    }

    private static String oneLine(String text) {
        return text.replaceAll("\\s+", " ").strip();
    }
}
