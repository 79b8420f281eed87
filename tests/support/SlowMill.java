import java.util.ArrayList;
import java.util.List;
import java.util.Set;
import java.util.TreeMap;
import java.util.regex.Matcher;
import java.util.regex.Pattern;

/**
 * The document once more, written without a look at speed or room, to hold RoarMill against: every HOUR gives a new
 * state, nothing is kept between calls, plans and splits are all tried out.
 */
final class SlowMill {
    /** A text that was read: a FAULT with its place, or what it tells. */
    static final class Text {
        int fault;
        int place;
        int room;
        int loud;
        int sieve = -1;
        int slips;
        int life;
        int bin;
        int draws;
        List<Integer> prices = new ArrayList<>();
        List<String> sizes = new ArrayList<>();
        List<Integer> breaks = new ArrayList<>();
        List<Integer> next = new ArrayList<>();
        List<String> ores = new ArrayList<>();
        List<Integer> hard = new ArrayList<>();
        List<List<Integer>> tons = new ArrayList<>();

        int tons(int ore, int size) {
            return size < tons.get(ore).size() ? tons.get(ore).get(size) : 0;
        }
    }

    record Token(String text, int place) {
        boolean whole() {
            return text.matches("[0-9]+");
        }

        boolean word() {
            return text.matches("[a-z]+");
        }
    }

    private static final Set<String> LINES = Set.of("drum", "sieve", "liner", "bin", "price", "size", "ore");
    private static final String END = "";
    private static final String BAD = "?";
    private static final Pattern TOKEN = Pattern.compile("[a-z]+|[0-9]+|[;,]|[^ ]", Pattern.DOTALL);

    private static List<Token> tokens(String text) {
        List<Token> all = new ArrayList<>();
        Matcher m = TOKEN.matcher(text);
        while (m.find()) {
            String t = m.group();
            boolean good = t.matches("[a-z]{1,8}|[0-9]{1,3}|[;,]");
            all.add(new Token(good ? t : BAD, m.start()));
        }
        all.add(new Token(END, text.length()));
        return all;
    }

    /**
     * Reads by the forms of the lines, each a pattern of what may stand; collects the FAULTS of all places up to the
     * first of FORM and takes the first.
     */
    static Text read(String text) {
        Text t = new Text();
        TreeMap<Integer, Integer> faults = new TreeMap<>();
        List<Token> all = tokens(text);
        int i = 0;
        boolean form = false;
        while (!form) {
            int next = line(t, all, i, faults);
            if (next < 0) {
                form = true;
            } else if (all.get(next).text().equals(END)) {
                if (t.room == 0 || t.sieve < 0 || t.life == 0 || t.bin == 0 || t.prices.isEmpty() || t.sizes.size() < 2
                    || t.ores.isEmpty()) {
                    note(faults, all.get(next), 6);
                }
                break;
            } else if (!all.get(next).text().equals(";")) {
                note(faults, all.get(next), 1);
                form = true;
            } else {
                i = next + 1;
            }
        }
        if (!faults.isEmpty()) {
            t.place = faults.firstKey();
            t.fault = faults.get(t.place);
        }
        return t;
    }

    private static void note(TreeMap<Integer, Integer> faults, Token at, int number) {
        faults.merge(at.place(), number, Math::min);
    }

    /** Where the token behind the line is; -1 behind a FAULT of FORM. What is doubtful is told all the same. */
    private static int line(Text t, List<Token> all, int i, TreeMap<Integer, Integer> faults) {
        Token first = all.get(i);
        String form;
        switch (first.text()) {
            case "drum": form = "room # loud #"; again(faults, first, t.room != 0); break;
            case "sieve": form = "@ slips #"; again(faults, first, t.sieve >= 0); break;
            case "liner": form = "#"; again(faults, first, t.life != 0); break;
            case "bin": form = "# draws #"; again(faults, first, t.bin != 0); break;
            case "price": form = "*"; again(faults, first, !t.prices.isEmpty()); break;
            case "size": form = "@"; many(faults, first, t.sizes.size() > 4); break;
            case "ore": form = "@ hard # tons *"; many(faults, first, t.ores.size() > 3); break;
            default: note(faults, first, 1); return -1;
        }
        List<Token> names = new ArrayList<>();
        List<Token> wholes = new ArrayList<>();
        int at = match(form, all, i + 1, faults, names, wholes);
        boolean size = first.text().equals("size");
        if (size && !names.isEmpty() && t.sizes.size() < 5) {
            told(t, names.get(0), faults);
            t.sizes.add(names.get(0).text());
        }
        if (size && at > 0 && all.get(at).text().equals("breaks")) {
            at = match("breaks # next #", all, at, faults, names, wholes);
        }
        tell(t, first.text(), names, wholes, faults);
        return at;
    }

    private static void again(TreeMap<Integer, Integer> faults, Token at, boolean is) {
        if (is) {
            note(faults, at, 3);
        }
    }

    private static void many(TreeMap<Integer, Integer> faults, Token at, boolean is) {
        if (is) {
            note(faults, at, 5);
        }
    }

    private static void told(Text t, Token name, TreeMap<Integer, Integer> faults) {
        if (t.sizes.contains(name.text()) || t.ores.contains(name.text())) {
            note(faults, name, 3);
        }
    }

    private static int match(String form, List<Token> all, int from, TreeMap<Integer, Integer> faults, List<Token> names,
        List<Token> wholes) {
        int at = from;
        for (String want : form.split(" ")) {
            Token token = all.get(at);
            boolean good;
            if (want.equals("#") || want.equals("*")) {
                good = token.whole();
            } else if (want.equals("@")) {
                good = token.word() && !LINES.contains(token.text());
            } else {
                good = token.text().equals(want);
            }
            if (!good) {
                note(faults, token, 1);
                return -1;
            }
            if (token.whole()) {
                wholes.add(token);
            } else if (want.equals("@")) {
                names.add(token);
            }
            at++;
            while (want.equals("*") && all.get(at).text().equals(",")) {
                if (!all.get(at + 1).whole()) {
                    note(faults, all.get(at + 1), 1);
                    return -1;
                }
                wholes.add(all.get(at + 1));
                at += 2;
            }
        }
        return at;
    }

    private static int whole(List<Token> wholes, int i, int least, int most, TreeMap<Integer, Integer> faults) {
        if (i >= wholes.size()) {
            return 0;
        }
        int v = Integer.parseInt(wholes.get(i).text());
        if (v < least || v > most) {
            note(faults, wholes.get(i), 4);
        }
        return v;
    }

    private static void tell(Text t, String line, List<Token> names, List<Token> wholes, TreeMap<Integer, Integer> faults) {
        switch (line) {
            case "drum":
                t.room = whole(wholes, 0, 20, 999, faults);
                t.loud = whole(wholes, 1, 10, 200, faults);
                break;
            case "sieve":
                t.sieve = names.isEmpty() ? -1 : t.sizes.indexOf(names.get(0).text());
                if (!names.isEmpty() && t.sieve < 0) {
                    note(faults, names.get(0), 2);
                }
                t.slips = whole(wholes, 0, 0, 50, faults);
                break;
            case "liner":
                t.life = whole(wholes, 0, 1, 200, faults);
                break;
            case "bin":
                t.bin = whole(wholes, 0, 1, 999, faults);
                t.draws = whole(wholes, 1, 0, 200, faults);
                break;
            case "price":
                for (int i = 0; i < wholes.size(); i++) {
                    t.prices.add(whole(wholes, i, 0, 99, faults));
                    many(faults, wholes.get(i), i > 5);
                }
                break;
            case "size":
                t.breaks.add(whole(wholes, 0, 0, 100, faults));
                t.next.add(whole(wholes, 1, 0, 100, faults));
                break;
            default:
                if (!names.isEmpty() && t.ores.size() < 4) {
                    told(t, names.get(0), faults);
                    t.ores.add(names.get(0).text());
                }
                t.hard.add(whole(wholes, 0, 1, 9, faults));
                List<Integer> tons = new ArrayList<>();
                for (int i = 1; i < wholes.size(); i++) {
                    tons.add(whole(wholes, i, 0, 50, faults));
                    many(faults, wholes.get(i), i > t.sizes.size());
                }
                t.tons.add(tons);
        }
    }

    /** THE STATE behind an HOUR, with what that HOUR told; never changed once it is made. */
    static final class At {
        long[] held;
        long[] back;
        long[] passed;
        long bin;
        int liner;
        int tears;
        boolean stands;
        int now;
        long full;
        long effect;
        long power;
        long roar;
        long spilt;
        long drawn;
        long lacking;
        long came;
        long cost;

        static At empty(Text t) {
            At a = new At();
            int n = t.sizes.size();
            a.held = new long[n];
            a.back = new long[n];
            a.passed = new long[n];
            return a;
        }
    }

    static At start(Text t, int tears, int liner, int fill) {
        At a = At.empty(t);
        a.tears = tears;
        a.liner = t.life * liner / 4;
        a.bin = t.bin / 2;
        for (int i = 0; i < a.held.length; i++) {
            a.held[i] = (long) fill * t.tons(0, i);
        }
        return a;
    }

    /** One HOUR. What it spills, draws and so on is of this HOUR alone. */
    static At hour(Text t, At was, int rate, int water, int ore) {
        At a = At.empty(t);
        int n = a.held.length;
        a.tears = was.tears;
        for (int i = 0; i < n; i++) {
            long coming = was.stands ? 0 : (long) rate * t.tons(ore, i);
            a.came += coming;
            a.held[i] = was.held[i] + was.back[i] + coming;
            a.full += a.held[i];
        }
        if (a.full > t.room) {
            a.stands = true;
            for (int i = 0; i < n; i++) {
                long dug = a.held[i] == 0 ? 0 : a.held[i] / 10 + 1;
                a.held[i] -= dug;
                a.spilt += dug;
            }
        } else {
            long filled = 100 * a.full / t.room;
            long effect = filled > 50 ? 150 - filled : 50 + filled;
            long left = t.life - was.liner < t.life / 2 ? t.life / 2 : t.life - was.liner;
            a.effect = effect * left / t.life * 10 / (9 + t.hard.get(ore));
            a.power = a.full * a.effect / 100;
            grind(t, a.held, a.effect);
            out(t, a.held, a.back, a.passed, water, a.tears);
        }
        long inBin = was.bin;
        for (long p : a.passed) {
            inBin += p;
        }
        a.spilt += Math.max(0, inBin - t.bin);
        inBin = Math.min(inBin, t.bin);
        a.drawn = Math.min(inBin, t.draws);
        a.lacking = t.draws - a.drawn;
        a.bin = inBin - a.drawn;
        a.roar = Math.max(0, t.loud - t.loud * a.full / t.room);
        a.cost = a.power * t.prices.get(was.now % t.prices.size());
        a.liner = was.liner + 1;
        a.now = was.now + 1;
        return a;
    }

    static void grind(Text t, long[] held, long effect) {
        int n = held.length;
        for (int i = n - 2; i >= 0; i--) {
            long broken = held[i] * t.breaks.get(i) * effect / 10000;
            held[i] -= broken;
            if (i == n - 2) {
                held[i + 1] += broken;
            } else {
                long near = broken * t.next.get(i) / 100;
                held[i + 1] += near;
                held[i + 2] += broken - near;
            }
        }
    }

    static void out(Text t, long[] held, long[] back, long[] passed, int water, int tears) {
        for (int i = 0; i < held.length; i++) {
            long out = held[i] * (20 + 10 * water) / 100;
            held[i] -= out;
            back[i] = 0;
            passed[i] = out;
            if (i < t.sieve) {
                passed[i] = out * Math.min(100, tears * t.slips) / 100;
                back[i] = out - passed[i];
            }
        }
    }

    // ---- the calls

    private String tape = "";
    private Text text;
    private At at;
    private long[] passedInAll;
    private long spilt;
    private long drawn;
    private long lacking;
    private long cost;
    private long came;
    private int[] settings = new int[3];
    private int[][] program = new int[12][3];
    private List<int[]> seen = new ArrayList<>();
    private List<Integer> before = new ArrayList<>();
    private List<Integer> after = new ArrayList<>();
    private List<Integer> planned = new ArrayList<>();
    private List<Integer> stood = new ArrayList<>();
    private int trouble;
    private int fault;
    private int place;

    private int no(int why) {
        trouble = why;
        return -1;
    }

    private int yes(long answer) {
        trouble = 0;
        return (int) answer;
    }

    int feed(int... numbers) {
        if (tape.length() + 20 > 700) {
            return -1;
        }
        StringBuilder b = new StringBuilder(tape);
        for (int v : numbers) {
            for (int k = 3; k >= 0; k--) {
                b.append((char) (v >>> 8 * k & 255));
            }
        }
        tape = b.toString();
        return tape.length();
    }

    int mill(int n) {
        if (n < 0 || n > tape.length()) {
            return no(2);
        }
        Text t = read(tape.substring(0, n));
        tape = "";
        fault = t.fault;
        place = t.place;
        if (t.fault != 0) {
            return no(4);
        }
        text = t;
        at = At.empty(t);
        passedInAll = new long[t.sizes.size()];
        spilt = drawn = lacking = cost = came = 0;
        settings = new int[] {1, 1, 0};
        for (int i = 0; i < 12; i++) {
            program[i] = new int[] {1, 1, 0};
        }
        seen.clear();
        before.clear();
        after.clear();
        planned.clear();
        stood.clear();
        return yes(t.sizes.size());
    }

    int fault() {
        return fault;
    }

    int where() {
        return trouble == 4 ? place : -1;
    }

    private boolean ore(int ore) {
        return text != null && ore >= 0 && ore < text.ores.size();
    }

    int set(int rate, int water, int ore) {
        if (!ore(ore)) {
            return no(1) + 1;
        }
        if (rate < 0 || rate > 3 || water < 0 || water > 3) {
            return no(2) + 1;
        }
        settings = new int[] {rate, water, ore};
        return yes(1);
    }

    int mend(int tears, boolean liner) {
        if (text == null) {
            return no(1) + 1;
        }
        if (tears < 0 || tears > 3) {
            return no(2) + 1;
        }
        at.tears = tears;
        at.liner = liner ? 0 : at.liner;
        return yes(1);
    }

    int go(int n) {
        if (text == null) {
            return no(1);
        }
        if (n < 1 || n > 24) {
            return no(2);
        }
        if (at.now > 240 - n) {
            return no(3);
        }
        int running = n;
        for (int i = 0; i < n; i++) {
            at = hour(text, at, settings[0], settings[1], settings[2]);
            if (at.stands) {
                stood.add(at.now - 1);
                running--;
            }
            for (int k = 0; k < at.passed.length; k++) {
                passedInAll[k] += at.passed[k];
            }
            spilt += at.spilt;
            drawn += at.drawn;
            lacking += at.lacking;
            cost += at.cost;
            came += at.came;
        }
        return yes(running);
    }

    int tons(int size, int what) {
        if (text == null || size < 0 || size >= text.sizes.size() || what < 0 || what > 3) {
            return -1;
        }
        return (int) new long[][] {at.held, at.back, at.passed, passedInAll}[what][size];
    }

    int state(int what) {
        if (what < 0 || what > 16) {
            return -1;
        }
        if (text == null) {
            return 0;
        }
        long[] all = {at.bin, spilt, drawn, lacking, at.liner, at.tears, at.stands ? 1 : 0, at.now, at.full, at.effect,
            at.power, at.roar, cost, came, settings[0], settings[1], settings[2]};
        return (int) all[what];
    }

    int program(int hour, int rate, int water, int ore) {
        if (hour < 0 || hour > 11 || !ore(ore)) {
            return no(1) + 1;
        }
        if (rate < 0 || rate > 3 || water < 0 || water > 3) {
            return no(2) + 1;
        }
        program[hour] = new int[] {rate, water, ore};
        return yes(1);
    }

    private boolean heard(int hour, int what) {
        return hour >= 0 && hour < 12 && what >= 0 && what < 2 + (text == null ? 0 : text.sizes.size());
    }

    int seen(int hour, int what, int value, int off) {
        if (!heard(hour, what)) {
            return no(1);
        }
        if (value < 0 || value > 999999 || off < 0 || off > 999) {
            return no(2);
        }
        if (seen.size() == 24) {
            return no(3);
        }
        seen.add(new int[] {hour, what, value, off});
        return yes(seen.size());
    }

    int forget() {
        int n = seen.size();
        seen.clear();
        return n;
    }

    private List<At> guess(int tears, int liner, int fill) {
        List<At> hours = new ArrayList<>();
        At a = start(text, tears, liner, fill);
        for (int[] p : program) {
            a = hour(text, a, p[0], p[1], p[2]);
            hours.add(a);
        }
        return hours;
    }

    private static long told(At a, int what) {
        return what == 0 ? a.roar : what == 1 ? a.power : a.passed[what - 2];
    }

    private List<int[]> fits(List<int[]> what) {
        List<int[]> found = new ArrayList<>();
        for (int tears = 0; tears < 4; tears++) {
            for (int liner = 0; liner < 5; liner++) {
                for (int fill = 0; fill < 5; fill++) {
                    List<At> hours = guess(tears, liner, fill);
                    boolean all = true;
                    for (int[] s : what) {
                        long told = told(hours.get(s[0]), s[1]);
                        all &= told >= s[2] - s[3] && told <= s[2] + s[3];
                    }
                    if (all) {
                        found.add(new int[] {tears, liner, fill});
                    }
                }
            }
        }
        return found;
    }

    int fits() {
        return text == null ? no(1) : yes(fits(seen).size());
    }

    int fitAt(int i, int what) {
        if (text == null || what < 0 || what > 2) {
            return no(1);
        }
        List<int[]> all = fits(seen);
        return i < 0 || i >= all.size() ? no(1) : yes(all.get(i)[what]);
    }

    int certain(int what) {
        if (text == null || what < 0 || what > 2) {
            return no(1);
        }
        List<int[]> all = fits(seen);
        if (all.isEmpty()) {
            return no(6);
        }
        long kinds = all.stream().mapToInt(f -> f[what]).distinct().count();
        return yes(kinds == 1 ? all.get(0)[what] : -2);
    }

    int guess(int tears, int liner, int fill, int hour, int what) {
        if (text == null || !heard(hour, what)) {
            return no(1);
        }
        if (!startThere(tears, liner, fill)) {
            return no(2);
        }
        return yes(told(guess(tears, liner, fill).get(hour), what));
    }

    private static boolean startThere(int tears, int liner, int fill) {
        return tears >= 0 && tears < 4 && liner >= 0 && liner < 5 && fill >= 0 && fill < 5;
    }

    int swapped() {
        if (text == null) {
            return no(1);
        }
        if (!fits(seen).isEmpty()) {
            return no(5);
        }
        for (int a = 0; a < 12; a++) {
            for (int b = a + 1; b < 12; b++) {
                List<int[]> other = new ArrayList<>();
                boolean changed = false;
                for (int[] s : seen) {
                    boolean touched = s[1] > 1 && (s[0] == a || s[0] == b);
                    changed |= touched;
                    other.add(new int[] {touched ? a + b - s[0] : s[0], s[1], s[2], s[3]});
                }
                if (changed && !fits(other).isEmpty()) {
                    return yes(100 * a + b);
                }
            }
        }
        return yes(-2);
    }

    int plan(int n) {
        if (text == null) {
            return no(1);
        }
        if (n < 1 || n > 5) {
            return no(2);
        }
        long least = -1;
        List<Integer> rates = null;
        for (int code = 0; code < 1 << 2 * n; code++) {
            At a = at;
            long sum = 0;
            List<Integer> these = new ArrayList<>();
            boolean good = true;
            for (int i = n - 1; i >= 0 && good; i--) {
                int rate = code >> 2 * i & 3;
                these.add(rate);
                a = hour(text, a, rate, settings[1], settings[2]);
                good = !a.stands && a.lacking == 0;
                sum += a.cost;
            }
            if (good && (rates == null || sum < least)) {
                least = sum;
                rates = these;
            }
        }
        if (rates == null) {
            return no(6);
        }
        planned = rates;
        return yes(least);
    }

    int rate(int i) {
        return i >= 0 && i < planned.size() ? planned.get(i) : -1;
    }

    private int rule(int n, boolean lacks) {
        if (text == null) {
            return no(1);
        }
        if (n < 1 || n > 5) {
            return no(2);
        }
        At a = at;
        long sum = 0;
        for (int i = 0; i < n; i++) {
            At taken = hour(text, a, 0, settings[1], settings[2]);
            for (int rate = 3; rate >= 0; rate--) {
                At b = hour(text, a, rate, settings[1], settings[2]);
                taken = b.stands || b.lacking > 0 ? taken : b;
            }
            a = taken;
            sum += lacks ? a.lacking : a.cost;
        }
        return yes(sum);
    }

    int rule(int n) {
        return rule(n, false);
    }

    int lacks(int n) {
        return rule(n, true);
    }

    int number(boolean behind, int v) {
        if (text == null) {
            return no(1);
        }
        if (v < 0 || v > 999) {
            return no(2);
        }
        List<Integer> row = behind ? after : before;
        if (row.size() == 8) {
            return no(3);
        }
        row.add(v);
        return yes(row.size());
    }

    private int splits(int least) {
        List<Integer> all = new ArrayList<>(before);
        all.addAll(after);
        int count = 0;
        for (int mask = 0; mask < 1 << all.size(); mask++) {
            if (Integer.bitCount(mask) == after.size()) {
                int sum = 0;
                for (int i = 0; i < all.size(); i++) {
                    sum += (mask >> i & 1) * all.get(i);
                }
                count += sum >= least ? 1 : 0;
            }
        }
        return count;
    }

    int chance() {
        if (before.isEmpty() || after.isEmpty()) {
            return no(5);
        }
        return yes(splits(after.stream().mapToInt(v -> v).sum()));
    }

    int splits() {
        return before.isEmpty() || after.isEmpty() ? no(5) : yes(splits(0));
    }

    int clear() {
        int n = before.size() + after.size();
        before.clear();
        after.clear();
        return n;
    }

    int marks(int tears, int liner, int fill, int size, int hour, int by) {
        if (text == null || size < 0 || size >= text.sizes.size() || hour < 0 || hour > 11 || by < 0 || by > 11) {
            return no(1);
        }
        if (!startThere(tears, liner, fill) || by < hour) {
            return no(2);
        }
        int n = text.sizes.size();
        long[] held = new long[n];
        long[] back = new long[n];
        long[] passed = new long[n];
        held[size] = 1000000;
        long sum = 0;
        List<At> hours = guess(tears, liner, fill);
        for (int i = hour; i <= by; i++) {
            At a = hours.get(i);
            for (int k = 0; k < n; k++) {
                held[k] += back[k];
                back[k] = 0;
            }
            if (!a.stands) {
                grind(text, held, a.effect);
                out(text, held, back, passed, program[i][1], tears);
                for (long p : passed) {
                    sum += p;
                }
            }
        }
        return yes(sum);
    }

    /** NONE where led() throws: no HOUR is below 0. */
    int led(int i) {
        return i >= 0 && i < stood.size() ? stood.get(i) : -1;
    }

    int size(int what) {
        if (what < 0 || what > 11) {
            return -1;
        }
        if (what == 10) {
            return seen.size();
        }
        if (what == 11) {
            return tape.length();
        }
        if (text == null) {
            return 0;
        }
        int[] all = {text.sizes.size(), text.ores.size(), text.room, text.loud, text.sieve, text.slips, text.life, text.bin,
            text.draws, text.prices.size()};
        return all[what];
    }

    int trouble() {
        return trouble;
    }
}
