import java.io.IOException;
import java.nio.file.DirectoryStream;
import java.nio.file.Files;
import java.nio.file.Path;
import java.util.Arrays;
import java.util.HashMap;
import java.util.Map;
import java.util.regex.Matcher;
import java.util.regex.Pattern;

/** Every word of the Terms and promises stands in a sentence that an Edges test looks at, but for those that only name things. */
public final class SentencesTest {
    private static final String TEXT = "\"((?:[^\"\\\\]|\\\\.)*)\"";
    private static final Pattern QUOTED = Pattern.compile("checks\\.says\\(" + TEXT + ",\\s*(" + TEXT + "(?:\\s*\\+\\s*" + TEXT + ")*)\\)");
    /** What only begins a row of terms. */
    private static final String[] NAMING = {"THE TEXT of a MILL", "TOKENS:", "LINE, one of:", "or",
        "THE STATE: TONS of each SIZE HELD in the drum and going BACK, TONS in the bin, HOURS of the liner,", "whether it STANDS,",
        "AN HOUR:"};

    private static final Checks checks = new Checks();

    public static void main(String[] args) throws IOException {
        Map<String, boolean[]> covered = new HashMap<>();
        Doc.parts().forEach((part, text) -> covered.put(part, new boolean[text.length()]));
        try (DirectoryStream<Path> tests = Files.newDirectoryStream(Path.of("tests"), "Edges*.java")) {
            for (Path test : tests) {
                cover(covered, Files.readString(test));
            }
        }
        Doc.parts().forEach((part, text) -> lookThrough(part, text, covered.get(part)));
        checks.finish();
    }

    private static void cover(Map<String, boolean[]> covered, String source) {
        Matcher m = QUOTED.matcher(source);
        while (m.find()) {
            String sentence = joined(m.group(2));
            checks.in(m.group(1));
            checks.due("\"" + sentence + "\" stands in the document", Doc.says(m.group(1), sentence), true);
            mark(covered.get(m.group(1)), Doc.parts().get(m.group(1)), sentence);
        }
    }

    private static String joined(String literals) {
        StringBuilder b = new StringBuilder();
        Matcher m = Pattern.compile(TEXT).matcher(literals);
        while (m.find()) {
            b.append(m.group(1));
        }
        return b.toString();
    }

    private static void mark(boolean[] covered, String text, String sentence) {
        int at = text == null ? -1 : text.indexOf(sentence);
        if (at >= 0) {
            Arrays.fill(covered, at, at + sentence.length(), true);
        }
    }

    private static void lookThrough(String part, String text, boolean[] covered) {
        checks.in(part);
        StringBuilder left = new StringBuilder();
        for (int i = 0; i <= text.length(); i++) {
            if (i < text.length() && !covered[i]) {
                left.append(text.charAt(i));
            } else if (left.length() > 0) {
                String words = left.toString().strip();
                boolean told = words.matches(".*[A-Za-z0-9].*") && !isNaming(words);
                checks.due("no test looks at \"" + words + "\"", told, false);
                left.setLength(0);
            }
        }
    }

    private static boolean isNaming(String words) {
        String rest = words;
        for (String name : NAMING) {
            rest = rest.replaceAll("\\b" + Pattern.quote(name) + "(?!\\w)", "");
        }
        return !rest.matches(".*[A-Za-z0-9].*");
    }
}
