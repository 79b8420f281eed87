import java.util.ArrayList;
import java.util.Arrays;
import java.util.List;

/** Texts of a MILL for tests that look at a few LINES: what is not told is added, plain and wide. */
final class Texts {
    /** Nothing breaks, nothing is ahead of the sieve, nothing is DRAWN. */
    private static final String[] PLAIN = {"drum room 100 loud 100", "sieve a slips 0", "liner 200", "bin 999 draws 0", "price 1",
        "ore x hard 1 tons 10"};

    private Texts() {
    }

    static String with(String... told) {
        List<String> lines = new ArrayList<>(Arrays.asList(told));
        if (!tells(lines, "size")) {
            lines.addAll(0, Arrays.asList("size a", "size b"));
        }
        for (String line : PLAIN) {
            if (!tells(lines, line.substring(0, line.indexOf(' ')))) {
                lines.add(line);
            }
        }
        return String.join(";", lines);
    }

    static RoarMill mill(String... told) {
        return Checks.milled(with(told));
    }

    private static boolean tells(List<String> lines, String word) {
        for (String line : lines) {
            if (line.startsWith(word + " ")) {
                return true;
            }
        }
        return false;
    }
}
