import java.nio.charset.StandardCharsets;
import java.util.Arrays;
import java.util.NoSuchElementException;

/** What the tests share: comparing answers, feeding texts, ending with exit code 1 if an answer was wrong. */
final class Checks {
    private int wrong = 0;
    private int asked = 0;
    private String part = "";

    void in(String name) {
        part = name;
    }

    /** What follows looks at this sentence, or part of one, of the document. */
    void says(String part, String sentence) {
        in(part + ", \"" + sentence + "\"");
        due("the document says so", Doc.says(part, sentence), true);
    }

    void due(String call, long got, long want) {
        asked++;
        if (got != want) {
            wrong++;
            System.out.println(part + ": " + call + " answered " + got + ", due is " + want);
        }
    }

    void due(String call, boolean got, boolean want) {
        due(call, got ? 1 : 0, want ? 1 : 0);
    }

    /** A refused call: NONE, and its TROUBLE. */
    void refused(String call, RoarMill x, long got, int trouble) {
        due(call, got, RoarMill.NONE);
        due(call + ", then trouble()", x.trouble(), trouble);
    }

    void refused(String call, RoarMill x, boolean got, int trouble) {
        due(call, got, false);
        due(call + ", then trouble()", x.trouble(), trouble);
    }

    /** A call that is not refused. */
    void fine(String call, RoarMill x, long got, long want) {
        due(call, got, want);
        due(call + ", then trouble()", x.trouble(), 0);
    }

    void fine(String call, RoarMill x, boolean got) {
        due(call, got, true);
        due(call + ", then trouble()", x.trouble(), 0);
    }

    void noneLed(RoarMill x, int i) {
        boolean thrown = false;
        try {
            x.led(i);
        } catch (NoSuchElementException e) {
            thrown = true;
        }
        due("led(" + i + ") throws", thrown, true);
    }

    void finish() {
        System.out.println(asked + " answers looked at, " + wrong + " wrong");
        if (wrong != 0) {
            System.exit(1);
        }
    }

    static int numberOf(byte[] bytes, int at) {
        return (bytes[at] & 255) << 24 | (bytes[at + 1] & 255) << 16 | (bytes[at + 2] & 255) << 8 | bytes[at + 3] & 255;
    }

    /** Feeds a text, with blanks behind it up to twenties; answers what the last feed() did. */
    static int feed(RoarMill x, String text) {
        byte[] told = text.getBytes(StandardCharsets.ISO_8859_1);
        byte[] bytes = Arrays.copyOf(told, (told.length + 19) / 20 * 20);
        Arrays.fill(bytes, told.length, bytes.length, (byte) 32);
        int answer = x.size(11);
        for (int i = 0; i < bytes.length; i += 20) {
            answer = x.feed(numberOf(bytes, i), numberOf(bytes, i + 4), numberOf(bytes, i + 8), numberOf(bytes, i + 12),
                numberOf(bytes, i + 16));
        }
        return answer;
    }

    /** Onto an empty TAPE. */
    static int mill(RoarMill x, String text) {
        feed(x, text);
        return x.mill(text.length());
    }

    static RoarMill milled(String text) {
        RoarMill x = new RoarMill();
        if (mill(x, text) < 2) {
            throw new IllegalStateException("no MILL: " + text + ": " + x.fault() + " at " + x.where());
        }
        return x;
    }
}
