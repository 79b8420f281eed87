import java.nio.charset.StandardCharsets;
import java.util.ArrayList;
import java.util.Arrays;
import java.util.Collections;
import java.util.List;
import java.util.NoSuchElementException;
import java.util.Random;

/** Runs of calls drawn by a fixed seed, on RoarMill and on SlowMill: all promises, each answer held against the other. */
public final class AgainstSlowMillTest {
    private static final int RUNS = 600;
    private static final int CALLS = 200;
    private static final String[] WORDS = {"a", "b", "coarse", "fine", "room", "breaks", "next", "tons", "hard", "dust",
        "abcdefgh", "loud", "slips", "draws", "x", "y", "z", "rock", "iron"};

    private final Checks checks = new Checks();
    private final Random random;
    private RoarMill x = new RoarMill();
    private SlowMill slow = new SlowMill();
    private int refusals;
    private int mills;

    private AgainstSlowMillTest(long seed) {
        random = new Random(seed);
    }

    public static void main(String[] args) {
        AgainstSlowMillTest test = new AgainstSlowMillTest(20261118);
        test.texts();
        test.runs();
        System.out.println(test.mills + " texts became a MILL, " + test.refusals + " calls were refused");
        test.checks.finish();
    }

    private int below(int n) {
        return random.nextInt(n);
    }

    private boolean oneIn(int n) {
        return below(n) == 0;
    }

    private int within(int least, int most) {
        return oneIn(6) ? (oneIn(2) ? least : most) : least + below(most - least + 1);
    }

    private String row(int count, int most) {
        StringBuilder b = new StringBuilder();
        for (int i = 0; i < count; i++) {
            b.append(i == 0 ? "" : ",").append(within(0, most));
        }
        return b.toString();
    }

    /** A text that is a MILL, its lines in some order that tells NAMES ahead of their use. */
    private String goodText() {
        List<String> names = new ArrayList<>(Arrays.asList(WORDS));
        Collections.shuffle(names, random);
        int sizes = 2 + below(4);
        int ores = 1 + below(4);
        List<String> lines = new ArrayList<>();
        for (int i = 0; i < sizes; i++) {
            String breaks = oneIn(5) ? "" : " breaks " + within(0, 100) + " next " + within(0, 100);
            lines.add("size " + names.get(i) + breaks);
        }
        int sieve = below(sizes);
        lines.add(sieve + 1 + below(sizes - sieve), "sieve " + names.get(sieve) + " slips " + within(0, 50));
        for (int i = 0; i < ores; i++) {
            int at = 1 + below(lines.size());
            int ahead = sizesAhead(lines, at);
            lines.add(at, "ore " + names.get(sizes + i) + " hard " + within(1, 9) + " tons " + row(1 + below(ahead), oneIn(3) ? 50 : 12));
        }
        String[] rest = {"drum room " + within(20, oneIn(2) ? 999 : 150) + " loud " + within(10, 200),
            "liner " + within(1, oneIn(2) ? 12 : 200),
            "bin " + within(1, oneIn(2) ? 60 : 999) + " draws " + within(0, oneIn(4) ? 200 : 12), "price " + row(1 + below(6), 99)};
        for (String line : rest) {
            lines.add(below(lines.size() + 1), line);
        }
        return String.join(oneIn(2) ? ";" : " ; ", lines);
    }

    private static int sizesAhead(List<String> lines, int at) {
        int ahead = 0;
        for (String line : lines.subList(0, at)) {
            ahead += line.startsWith("size ") ? 1 : 0;
        }
        return ahead;
    }

    private String spoiled(String text) {
        StringBuilder b = new StringBuilder(text);
        int times = 1 + below(3);
        for (int k = 0; k < times && b.length() > 1; k++) {
            int at = below(b.length());
            switch (below(9)) {
                case 0: b.setCharAt(at, (char) below(256)); break;
                case 1: b.deleteCharAt(at); break;
                case 2: b.insert(at, (char) (97 + below(26))); break;
                case 3: b.insert(at, (char) (48 + below(10))); break;
                case 4: b.insert(at, " ,;".charAt(below(3))); break;
                case 5: b.setLength(at); break;
                default: swapLines(b); break;
            }
        }
        return b.length() > 700 ? b.substring(0, 700) : b.toString();
    }

    /** One line is said again, left out, or put elsewhere; or one NAME or WHOLE becomes another. */
    private void swapLines(StringBuilder b) {
        List<String> lines = new ArrayList<>(Arrays.asList(b.toString().split(";")));
        int at = below(lines.size());
        switch (below(5)) {
            case 0: lines.add(below(lines.size() + 1), lines.get(at)); break;
            case 1: lines.remove(at); break;
            case 2: lines.add(below(lines.size()), lines.remove(at)); break;
            case 3: lines.set(at, lines.get(at).replaceFirst("[0-9]+", String.valueOf(below(1100)))); break;
            default: lines.set(at, lines.get(at) + "," + below(60)); break;
        }
        b.setLength(0);
        b.append(String.join(";", lines));
    }

    private void compare(String call, long got, long want) {
        checks.due(call, got, want);
        checks.due(call + ", then trouble()", x.trouble(), slow.trouble());
        checks.due(call + ", then where()", x.where(), slow.where());
        checks.due(call + ", then fault()", x.fault(), slow.fault());
        refusals += slow.trouble() > 0 ? 1 : 0;
    }

    private void feedBoth(String text) {
        byte[] told = text.getBytes(StandardCharsets.ISO_8859_1);
        byte[] bytes = Arrays.copyOf(told, (told.length + 19) / 20 * 20);
        for (int i = 0; i < bytes.length; i += 20) {
            int[] v = new int[5];
            for (int k = 0; k < 5; k++) {
                v[k] = Checks.numberOf(bytes, i + 4 * k);
            }
            compare("feed", x.feed(v[0], v[1], v[2], v[3], v[4]), slow.feed(v));
        }
    }

    private void millBoth(String text) {
        int there = slow.size(11);
        if (there > 0) {
            compare("mill(0)", x.mill(0), slow.mill(0));
        }
        feedBoth(text);
        int want = slow.mill(text.length());
        compare("mill of '" + text + "'", x.mill(text.length()), want);
        mills += want > 0 ? 1 : 0;
    }

    private void texts() {
        for (int i = 0; i < 20000; i++) {
            checks.in("text " + i);
            String good = goodText();
            if (good.length() > 700) {
                continue;
            }
            if (i % 100 == 0) {
                x = new RoarMill();
                slow = new SlowMill();
            }
            millBoth(oneIn(5) ? good : spoiled(good));
            for (int k = -1; k < 13; k++) {
                checks.due("size(" + k + ")", x.size(k), slow.size(k));
            }
        }
    }

    private void runs() {
        for (int run = 0; run < RUNS; run++) {
            checks.in("run " + run);
            x = new RoarMill();
            slow = new SlowMill();
            if (!oneIn(20)) {
                millBoth(goodText());
            }
            for (int i = 0; i < CALLS; i++) {
                call();
            }
        }
    }

    private int some(int count) {
        return oneIn(25) ? (oneIn(2) ? -1 : count) : below(count);
    }

    private void call() {
        switch (below(28)) {
            case 0: setBoth(); break;
            case 1: mendBoth(); break;
            case 2: case 3: goBoth(); break;
            case 4: lookBoth(); break;
            case 5: case 6: programBoth(); break;
            case 7: case 8: case 9: seenBoth(); break;
            case 10: forgetBoth(); break;
            case 11: compare("fits()", x.fits(), slow.fits()); break;
            case 12: fitAtBoth(); break;
            case 13: certainBoth(); break;
            case 14: case 15: guessBoth(); break;
            case 16: swappedBoth(); break;
            case 17: case 18: planBoth(); break;
            case 19: ruleBoth(); break;
            case 20: case 21: numberBoth(); break;
            case 22: chanceBoth(); break;
            case 23: case 24: case 25: marksBoth(); break;
            case 26: rareBoth(); break;
            default: ledBoth(); break;
        }
    }

    private void setBoth() {
        int a = some(4), b = some(4), c = some(2);
        compare("set(" + a + ", " + b + ", " + c + ")", x.set(a, b, c) ? 1 : 0, slow.set(a, b, c));
    }

    private void mendBoth() {
        int a = some(4);
        boolean b = oneIn(2);
        compare("mend(" + a + ", " + b + ")", x.mend(a, b) ? 1 : 0, slow.mend(a, b));
    }

    private void goBoth() {
        int n = oneIn(10) ? some(26) : 1 + below(5);
        compare("go(" + n + ")", x.go(n), slow.go(n));
        lookBoth();
    }

    private void lookBoth() {
        for (int i = -1; i < 18; i++) {
            compare("state(" + i + ")", x.state(i), slow.state(i));
        }
        for (int i = -1; i < 6; i++) {
            for (int k = -1; k < 5; k++) {
                compare("tons(" + i + ", " + k + ")", x.tons(i, k), slow.tons(i, k));
            }
        }
    }

    private void programBoth() {
        int h = some(12), a = some(4), b = some(4), c = some(2);
        compare("program(" + h + ", " + a + ", " + b + ", " + c + ")", x.program(h, a, b, c) ? 1 : 0, slow.program(h, a, b, c));
    }

    /** Mostly what one START would tell, so that there are FITS; sometimes with two HOURS changed. */
    private void seenBoth() {
        if (slow.size(10) > 20 && !oneIn(4)) {
            forgetBoth();
        }
        int tears = below(4), liner = below(5), fill = below(5);
        int one = below(12), two = below(12), off = oneIn(3) ? below(4) : 0;
        boolean changed = oneIn(2);
        for (int k = 0; k < 3; k++) {
            int hour = k == 2 ? some(12) : k == 0 ? one : two;
            int what = some(4);
            int from = changed && what > 1 && k < 2 ? one + two - hour : hour;
            int value = Math.max(slow.guess(tears, liner, fill, from, what), 0) + (oneIn(30) ? 1 : 0);
            x.guess(tears, liner, fill, from, what);
            int v = oneIn(40) ? (oneIn(2) ? -1 : 1000000) : value;
            int o = oneIn(40) ? (oneIn(2) ? -1 : 1000) : off;
            compare("seen(" + hour + ", " + what + ", " + v + ", " + o + ")", x.seen(hour, what, v, o), slow.seen(hour, what, v, o));
        }
        compare("fits()", x.fits(), slow.fits());
        if (slow.fits() == 0) {
            swappedBoth();
        }
    }

    private void forgetBoth() {
        compare("forget()", x.forget(), slow.forget());
    }

    private void fitAtBoth() {
        int i = oneIn(4) ? some(100) : some(4);
        int what = some(3);
        compare("fitAt(" + i + ", " + what + ")", x.fitAt(i, what), slow.fitAt(i, what));
    }

    private void certainBoth() {
        int what = some(3);
        compare("certain(" + what + ")", x.certain(what), slow.certain(what));
    }

    private void guessBoth() {
        int a = some(4), b = some(5), c = some(5), d = some(12), e = some(6);
        compare("guess(" + a + ", " + b + ", " + c + ", " + d + ", " + e + ")", x.guess(a, b, c, d, e), slow.guess(a, b, c, d, e));
    }

    private void swappedBoth() {
        compare("swapped()", x.swapped(), slow.swapped());
    }

    private void planBoth() {
        int n = some(6);
        compare("plan(" + n + ")", x.plan(n), slow.plan(n));
        for (int i = -1; i < 6; i++) {
            compare("rate(" + i + ")", x.rate(i), slow.rate(i));
        }
    }

    private void ruleBoth() {
        int n = some(6);
        compare("rule(" + n + ")", x.rule(n), slow.rule(n));
        compare("lacks(" + n + ")", x.lacks(n), slow.lacks(n));
    }

    private void numberBoth() {
        boolean after = oneIn(2);
        int v = oneIn(20) ? (oneIn(2) ? -1 : 1000) : oneIn(2) ? below(5) : below(1000);
        compare("number(" + after + ", " + v + ")", x.number(after, v), slow.number(after, v));
    }

    private void chanceBoth() {
        compare("chance()", x.chance(), slow.chance());
        compare("splits()", x.splits(), slow.splits());
    }

    private void marksBoth() {
        int a = some(4), b = some(5), c = some(5), d = some(3), e = some(12), f = oneIn(5) ? some(12) : Math.min(e + below(6), 11);
        compare("marks(" + a + ", " + b + ", " + c + ", " + d + ", " + e + ", " + f + ")", x.marks(a, b, c, d, e, f),
            slow.marks(a, b, c, d, e, f));
    }

    private void rareBoth() {
        switch (below(4)) {
            case 0: compare("clear()", x.clear(), slow.clear()); break;
            case 1: feedBoth("drum room 50 loud 20"); break;
            case 2: int n = some(30); compare("mill(" + n + ")", x.mill(n), slow.mill(n)); break;
            default: millBoth(oneIn(2) ? goodText() : spoiled(goodText())); break;
        }
    }

    private void ledBoth() {
        for (int i = -1; i < 4; i++) {
            int got;
            try {
                got = x.led(i);
            } catch (NoSuchElementException e) {
                got = -1;
            }
            compare("led(" + i + ")", got, slow.led(i));
        }
    }
}
