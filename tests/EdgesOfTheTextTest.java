/** Terms I and promises 1 to 5 and 29, sentence by sentence: each that names an edge has a test of its own. */
public final class EdgesOfTheTextTest {
    private static final String GOOD = Texts.with();

    private static final Checks checks = new Checks();

    public static void main(String[] args) {
        tapeBytes();
        blanks();
        words();
        wholes();
        signs();
        lineAfterLine();
        drumLine();
        sieveLine();
        linerAndBinLines();
        priceLine();
        sizeLine();
        oreLine();
        names();
        howManyNames();
        firstFromTheLeft();
        leastOfOnePlace();
        faultOne();
        faultsTwoAndThree();
        faultsFourAndFive();
        faultSix();
        newObject();
        feed();
        millOfTheFirstBytes();
        millBeginsAnew();
        millOfItsTextAlone();
        millRefused();
        fault();
        where();
        size();
        checks.finish();
    }

    private static void faulty(String text, int fault, int place) {
        RoarMill x = new RoarMill();
        checks.refused("mill of '" + text + "'", x, Checks.mill(x, text), 4);
        checks.due("fault() of '" + text + "'", x.fault(), fault);
        checks.due("where() of '" + text + "'", x.where(), place);
    }

    private static RoarMill sound(String text, int sizes) {
        RoarMill x = new RoarMill();
        checks.fine("mill of '" + text + "'", x, Checks.mill(x, text), sizes);
        checks.due("fault() of '" + text + "'", x.fault(), 0);
        return x;
    }

    /** The LINE stands in a text that is sound but for it; its # is the WHOLE. */
    private static void bounded(String line, int least, int most, int what) {
        String text = Texts.with(line);
        int place = text.indexOf('#');
        for (int value : new int[] {least, most}) {
            RoarMill x = sound(text.replace("#", String.valueOf(value)), 2);
            if (what >= 0) {
                checks.due("size(" + what + ")", x.size(what), value);
            }
        }
        if (least > 0) {
            faulty(text.replace("#", String.valueOf(least - 1)), 4, place);
        }
        // 1000 is no WHOLE any more
        faulty(text.replace("#", String.valueOf(most + 1)), most == 999 ? 1 : 4, place);
    }

    private static void tapeBytes() {
        checks.says("Terms I", "THE TAPE has 700 bytes");
        RoarMill x = new RoarMill();
        String head = GOOD.replace(";liner 200", "") + ";liner";
        String text = head + " ".repeat(697 - head.length()) + "123";
        checks.due("feed() of 700", Checks.feed(x, text), 700);
        checks.fine("mill(700)", x, x.mill(700), 2);
        checks.due("the last byte is read", x.size(6), 123);
    }

    private static void blanks() {
        checks.says("Terms I", "blanks, 32, part TOKENS and mean nothing else");
        sound("   " + GOOD.replace(";", "  ;  ").replace(" ", "   ") + "   ", 2);
        sound(GOOD.replace("room 100 loud 100", "room100loud100"), 2);
        faulty(GOOD.replace("drum", "dr um"), 1, GOOD.indexOf("drum"));
        faulty(GOOD.replace("liner 200", "liner 20 0"), 1, GOOD.indexOf("liner") + 9);
        for (int other : new int[] {0, 9, 10, 13, 31, 33, 160, 255}) {
            faulty("size" + (char) other + "a", 1, 4);
        }
    }

    private static void words() {
        checks.says("Terms I", "WORDS of 1 to 8 small letters that stand together");
        sound(GOOD.replace("size b", "size z"), 2);
        sound(GOOD.replace("size b", "size abcdefgh"), 2);
        faulty("size abcdefghi", 1, 5);
        faulty("size abcdefghijklmnopq", 1, 5);
        // the signs beside a and z, and a capital one
        faulty("size " + (char) 96, 1, 5);
        faulty("size " + (char) 123, 1, 5);
        faulty("size B", 1, 5);
        faulty("size bB", 1, 6);
        faulty("size " + (char) (128 + 'b'), 1, 5);
    }

    private static void wholes() {
        checks.says("Terms I", "WHOLES of 1 to 3 digits that do");
        checks.due("one digit", sound(GOOD.replace("liner 200", "liner 7"), 2).size(6), 7);
        checks.due("three digits", sound(GOOD.replace("liner 200", "liner 007"), 2).size(6), 7);
        faulty("liner 0007", 1, 6);
        faulty("liner 1000", 1, 6);
        faulty("liner 99999999999999999999", 1, 6);
        // the signs beside 0 and 9, and one below 0
        faulty("liner /", 1, 6);
        faulty("liner :", 1, 6);
        faulty("liner 7:", 1, 7);
        faulty("liner -7", 1, 6);
    }

    private static void signs() {
        checks.says("Terms I", "single ones of ; ,");
        faulty("size a;;size b", 1, 7);
        faulty("price 1,,2", 1, 8);
        faulty("price 1;,2", 1, 8);
        faulty("size a.size b", 1, 6);
    }

    private static void lineAfterLine() {
        checks.says("Terms I", "LINE {; LINE}");
        faulty("", 1, 0);
        faulty("     ", 1, 5);
        faulty(";" + GOOD, 1, 0);
        faulty(GOOD + ";", 1, GOOD.length() + 1);
        faulty(GOOD + "; ", 1, GOOD.length() + 2);
        faulty("size a size b", 1, 7);
        faulty("liner 5", 6, 7);
    }

    private static void drumLine() {
        checks.says("Terms I", "drum room WHOLE loud WHOLE (20 .. 999, 10 .. 200)");
        bounded("drum room # loud 10", 20, 999, 2);
        bounded("drum room 20 loud #", 10, 200, 3);
        faulty("drum loud 10 room 20", 1, 5);
        faulty("drum room 20", 1, 12);
    }

    private static void sieveLine() {
        checks.says("Terms I", "sieve NAME slips WHOLE (a SIZE; 0 .. 50)");
        bounded("sieve a slips #", 0, 50, 5);
        checks.due("the last SIZE", sound(Texts.with("sieve b slips 1"), 2).size(4), 1);
        checks.due("the first SIZE", sound(Texts.with("sieve a slips 1"), 2).size(4), 0);
        faulty("size a;sieve a", 1, 14);
        faulty("size a;sieve slips 5", 2, 13);
        faulty("size a;sieve 5", 1, 13);
    }

    private static void linerAndBinLines() {
        checks.says("Terms I", "liner WHOLE (1 .. 200)");
        bounded("liner #", 1, 200, 6);
        faulty("liner", 1, 5);
        checks.says("Terms I", "bin WHOLE draws WHOLE (1 .. 999, 0 .. 200)");
        bounded("bin # draws 5", 1, 999, 7);
        bounded("bin 5 draws #", 0, 200, 8);
        faulty("bin 5", 1, 5);
    }

    private static void priceLine() {
        checks.says("Terms I", "price WHOLE {, WHOLE} (0 .. 99; up to 6)");
        bounded("price #", 0, 99, -1);
        bounded("price 1,2,3,4,5,#", 0, 99, -1);
        checks.due("one", sound(Texts.with("price 1"), 2).size(9), 1);
        checks.due("six", sound(Texts.with("price 1,2,3,4,5,6"), 2).size(9), 6);
        faulty("price 1,2,3,4,5,6,7", 5, 18);
        faulty("price ,1", 1, 6);
        faulty("price 1,;", 1, 8);
    }

    private static void sizeLine() {
        checks.says("Terms I", "size NAME, behind it perhaps breaks WHOLE next WHOLE (0 .. 100 each)");
        sound("size a breaks 0 next 100;size b breaks 100 next 0;" + GOOD.substring(GOOD.indexOf("drum")), 2);
        sound("size a;size b;" + GOOD.substring(GOOD.indexOf("drum")), 2);
        faulty("size a breaks 101 next 0", 4, 14);
        faulty("size a breaks 100 next 101", 4, 23);
        faulty("size a breaks 100;size b", 1, 17);
        faulty("size a next 100", 1, 7);
        faulty("size a next 1 breaks 1", 1, 7);
        faulty("size", 1, 4);
    }

    private static void oreLine() {
        checks.says("Terms I", "ore NAME hard WHOLE tons WHOLE {, WHOLE} (1 .. 9;");
        bounded("ore x hard # tons 5", 1, 9, -1);
        faulty("size a;ore x hard 5", 1, 19);
        faulty("size a;ore x hard 5 tons", 1, 24);
        checks.says("Terms I", "tons 0 .. 50, of SIZES in order, up to how many are told ahead; of others 0");
        bounded("ore x hard 1 tons #", 0, 50, -1);
        bounded("ore x hard 1 tons 0,#", 0, 50, -1);
        RoarMill x = sound(Texts.with("size a", "size b", "ore x hard 1 tons 10,20", "size c"), 3);
        x.set(1, 0, 0);
        x.go(1);
        checks.due("of the first", x.tons(0, 0) + x.tons(0, 2), 10);
        checks.due("of the second", x.tons(1, 0) + x.tons(1, 2), 20);
        checks.due("of one told behind it", x.tons(2, 0) + x.tons(2, 2), 0);
        x = sound(Texts.with("size a", "size b", "ore x hard 1 tons 10"), 2);
        x.go(1);
        checks.due("of one it doesn't tell", x.tons(1, 0) + x.tons(1, 2), 0);
        checks.due("in all", x.state(13), 10);
        faulty("size a;ore x hard 1 tons 1,2;size b", 5, 27);
        faulty("ore x hard 1 tons 0;size a", 5, 18);
    }

    private static void names() {
        checks.says("Terms I", "NAMES are WORDS but drum, sieve, liner, bin, price, size, ore");
        for (String word : new String[] {"drum", "sieve", "liner", "bin", "price", "size", "ore"}) {
            faulty("size " + word, 1, 5);
            faulty("size a;sieve " + word, 1, 13);
            faulty("size a;ore " + word, 1, 11);
            sound(GOOD.replace("size b", "size " + word + "s"), 2);
        }
        for (String word : new String[] {"room", "loud", "slips", "draws", "breaks", "next", "hard", "tons"}) {
            sound("size " + word + " breaks 1 next 1;" + GOOD.replace("ore x", "ore y").replace("sieve a", "sieve " + word), 3);
        }
        checks.says("Terms I", "each told once, ahead of its use");
        faulty("size a;size a", 3, 12);
        faulty("size a;sieve b slips 1;size b", 2, 13);
        sound("size b;" + GOOD.replace("size a;size b", "size a"), 2);
    }

    private static String letters(String line, int count) {
        StringBuilder b = new StringBuilder();
        for (int i = 0; i < count; i++) {
            b.append(i == 0 ? "" : ";").append(line.replace('#', (char) ('a' + i)));
        }
        return b.toString();
    }

    private static void howManyNames() {
        checks.says("Terms I", "2 to 5 SIZES, from the coarsest on");
        String rest = GOOD.substring(GOOD.indexOf("drum"));
        faulty("size a;" + rest, 6, rest.length() + 7);
        sound("size a;size b;" + rest, 2);
        sound(letters("size #", 5) + ";" + rest, 5);
        faulty(letters("size #", 6) + ";" + rest, 5, 35);
        // what breaks of the first becomes the second: all of 50 by EFFECT 100, of which 10 are out
        RoarMill x = sound(Texts.with("size c breaks 100 next 100", "size b", "size a", "ore x hard 1 tons 50"), 3);
        x.set(1, 0, 0);
        x.go(1);
        checks.due("the first", x.tons(0, 0), 0);
        checks.due("the second", x.tons(1, 0), 40);
        checks.says("Terms I", "up to 4 ORES");
        String ores = GOOD.replace("ore x hard 1 tons 10", "");
        checks.due("one", sound(ores + "ore x hard 1 tons 1", 2).size(1), 1);
        String four = ores + "ore s hard 1 tons 1;ore t hard 1 tons 1;ore u hard 1 tons 1;ore v hard 1 tons 1";
        x = sound(four, 2);
        checks.due("four", x.size(1), 4);
        checks.fine("the fourth is one", x, x.set(1, 1, 3));
        faulty(four + ";ore w hard 1 tons 1", 5, four.length() + 1);
    }

    private static void firstFromTheLeft() {
        checks.says("Terms I", "FAULTS, the first that is met from the left");
        faulty("liner 0;size A", 4, 6);
        faulty("size a;sieve b slips 99;;", 2, 13);
        faulty("price 1,2,3,4,5,6,7,A", 5, 18);
        faulty("size a;size a;?", 3, 12);
        faulty("size a ?;size a", 1, 7);
    }

    private static void leastOfOnePlace() {
        checks.says("Terms I", "of one place the least number");
        faulty("price 1,2,3,4,5,6,100", 4, 18);
        faulty("size a;ore x hard 1 tons 1,51", 4, 27);
        faulty("size a;sieve ore slips 1", 1, 13);
        // at the end what is open is FORM, though there are LACKS as well
        faulty("size a;", 1, 7);
        faulty("size a;size b breaks", 1, 20);
    }

    private static void faultOne() {
        checks.says("Terms I", "1 FORM: the first byte that begins no TOKEN, or TOKEN with which no MILL goes on");
        faulty("size a?", 1, 6);
        faulty("size a 5", 1, 7);
        faulty("size a breaks b", 1, 14);
        faulty("hello", 1, 0);
        faulty("5", 1, 0);
        String all = GOOD.replace("size a", "size a breaks 1 next 1");
        for (String word : new String[] {"size", "breaks", "next", "drum", "room", "loud", "sieve", "slips", "liner", "bin", "draws",
            "price", "ore", "hard", "tons"}) {
            int at = all.indexOf(word);
            int end = at + word.length();
            faulty(all.substring(0, at) + "q" + all.substring(at + 1), 1, at);
            faulty(all.substring(0, end - 1) + "q" + all.substring(end), 1, at);
            faulty(all.substring(0, end - 1) + all.substring(end), 1, at);
            faulty(all.substring(0, end) + "q" + all.substring(end), 1, at);
        }
        checks.says("Terms I", "(the end: its place)");
        faulty("drum room", 1, 9);
        faulty("drum room  ", 1, 11);
        RoarMill x = new RoarMill();
        Checks.feed(x, "drum room 20 loud 10");
        checks.refused("mill(12)", x, x.mill(12), 4);
        checks.due("the end is where the bytes end: where()", x.where(), 12);
    }

    private static void faultsTwoAndThree() {
        checks.says("Terms I", "2 a NAME that isn't a SIZE's; at it");
        faulty("sieve a slips 1", 2, 6);
        faulty("size a;ore x hard 1 tons 1;sieve x slips 1", 2, 33);
        faulty("size ab;sieve a slips 1", 2, 14);
        faulty("size a;sieve ab slips 1", 2, 13);
        checks.says("Terms I", "3 a NAME told again; at it");
        faulty("size abcdefgh;size abcdefgh", 3, 19);
        faulty("size a;ore x hard 1 tons 1;ore x hard 1 tons 1", 3, 31);
        faulty("size a;ore a hard 1 tons 1", 3, 11);
        faulty("size a;ore x hard 1 tons 1;size x", 3, 32);
        for (char c = 'a'; c < 'x'; c++) {
            sound(GOOD.replace("size a;size b", "size " + c + ";size " + c + c).replace("sieve a", "sieve " + c + c), 2);
        }
        checks.says("Terms I", "a second drum, sieve, liner, bin or price; at that WORD");
        for (String line : new String[] {"drum room 100 loud 100", "sieve a slips 0", "liner 200", "bin 999 draws 0", "price 1"}) {
            faulty(GOOD + "; " + line, 3, GOOD.length() + 2);
            faulty(GOOD + ";" + line.substring(0, line.indexOf(' ')), 3, GOOD.length() + 1);
        }
        // the first with the least WHOLES that it may have
        faulty("drum room 20 loud 10;drum", 3, 21);
        faulty("size a;sieve a slips 0;sieve", 3, 23);
        faulty("liner 1;liner", 3, 8);
        faulty("bin 1 draws 0;bin", 3, 14);
        faulty("price 0;price", 3, 8);
    }

    private static void faultsFourAndFive() {
        checks.says("Terms I", "4 a WHOLE out of bounds; at it");
        faulty("drum room   19 loud 0", 4, 12);
        faulty("drum room 019 loud 0", 4, 10);
        checks.says("Terms I", "5 MANY: a sixth SIZE, a fifth ORE, at its first WORD");
        faulty(letters("size #", 5) + ";  size a", 5, 37);
        faulty(letters("size #", 5) + ";size", 5, 35);
        String four = "size z;" + letters("ore # hard 1 tons 1", 4);
        faulty(four + "; ore a", 5, four.length() + 2);
        checks.says("Terms I", "a price, tons more than there may be, at that WHOLE");
        faulty("price 1,2,3,4,5,6,  7", 5, 20);
        faulty("price 1,2,3,4,5,6,", 1, 18);
        faulty("size a;size b;ore x hard 1 tons 1,2, 3", 5, 37);
        faulty(letters("size #", 5) + ";ore x hard 1 tons 1,2,3,4,5,6", 5, 63);
    }

    private static void faultSix() {
        checks.says("Terms I", "6 LACKS, at the end: no drum, sieve, liner, bin or price, fewer than two SIZES, no ORE");
        for (String word : new String[] {"drum", "sieve", "liner", "bin", "price", "ore", "size b"}) {
            String left = (";" + GOOD).replaceFirst(";" + word + "[^;]*", "").substring(1);
            faulty(left, 6, left.length());
            faulty(left + "   ", 6, left.length() + 3);
        }
    }

    private static void newObject() {
        checks.says("Promise 1", "No MILL.");
        RoarMill x = new RoarMill();
        checks.refused("fits()", x, x.fits(), 1);
        for (int i = 0; i < 12; i++) {
            checks.due("size(" + i + ")", x.size(i), 0);
        }
        checks.due("fault()", x.fault(), 0);
        checks.due("trouble() of one that was never refused", new RoarMill().trouble(), 0);
    }

    private static void feed() {
        checks.says("Promise 2", "Twenty bytes come behind THE TAPE, of each number the highest first: how many it has");
        // "size" "A   " ..: the first byte that begins no TOKEN is the highest of the second number, then the lowest
        RoarMill x = new RoarMill();
        checks.due("feed", x.feed(0x73697a65, 0x41202020, 0x20202020, 0x20202020, 0x20202020), 20);
        x.mill(20);
        checks.due("the highest: where()", x.where(), 4);
        checks.due("feed", x.feed(0x73697a65, 0x20202020, 0x20202020, 0x20202020, 0x20202041), 20);
        checks.due("feed behind it", x.feed(0, 0, 0, 0, 0), 40);
        x.mill(40);
        checks.due("the lowest of the last: where()", x.where(), 19);
        checks.says("Promise 2", "NONE, and none comes, if there would be more than 700");
        for (int i = 1; i <= 35; i++) {
            checks.due("feed " + i, x.feed(0x20202020, 0x20202020, 0x20202020, 0x20202020, 0x20202020), 20 * i);
        }
        checks.due("feed above 700", x.feed(1, 1, 1, 1, 1), RoarMill.NONE);
        checks.due("none comes: size(11)", x.size(11), 700);
        x.mill(700);
        checks.due("none comes: where()", x.where(), 700);
        checks.due("then there is room", x.feed(1, 1, 1, 1, 1), 20);
    }

    private static void millOfTheFirstBytes() {
        checks.says("Promise 3", "The first n bytes of THE TAPE (it is empty then) are the MILL from now on");
        RoarMill x = new RoarMill();
        Checks.feed(x, GOOD + "5?");
        checks.fine("mill", x, x.mill(GOOD.length()), 2);
        x.go(1);
        checks.due("what stands behind them is nothing: TONS that came", x.state(13), 10);
        checks.due("it is empty then", x.size(11), 0);
        checks.refused("mill(1)", x, x.mill(1), 2);
        Checks.feed(x, GOOD + "5?");
        checks.fine("mill", x, x.mill(GOOD.length() - 1), 2);
        x.go(1);
        checks.due("the last WHOLE is cut: TONS that came", x.state(13), 1);
        checks.says("Promise 3", "how many SIZES");
        for (int count = 2; count <= 5; count++) {
            sound(letters("size #", count) + GOOD.replace("size a;size b", ""), count);
        }
    }

    private static void used(RoarMill x) {
        x.plan(1);
        x.mend(2, false);
        x.set(3, 3, 1);
        x.program(0, 0, 0, 1);
        x.seen(0, 0, 1, 0);
        x.number(false, 5);
        x.number(true, 5);
        x.go(24);
    }

    private static final String ANEW = Texts.with("size a breaks 50 next 100", "size b", "sieve b slips 20", "bin 5 draws 1",
        "ore x hard 1 tons 20", "ore y hard 1 tons 40,40");

    private static void nothingOfBefore(RoarMill x) {
        Checks.mill(x, ANEW);
        for (int size = 0; size < 2; size++) {
            for (int what = 0; what < 4; what++) {
                checks.due("tons(" + size + ", " + what + ")", x.tons(size, what), 0);
            }
        }
        for (int i = 0; i < 14; i++) {
            checks.due("state(" + i + ")", x.state(i), 0);
        }
    }

    private static void millBeginsAnew() {
        RoarMill x = Checks.milled(ANEW);
        used(x);
        x.set(1, 3, 0);
        x.go(10);
        checks.in("what the next are told against: it goes");
        for (int i = 0; i < 17; i++) {
            if (i != 6 && i != 16) {
                checks.due("state(" + i + ") is something", x.state(i) > 0, true);
            }
        }
        for (int what = 0; what < 4; what++) {
            checks.due("tons(0, " + what + ") is something", x.tons(0, what) > 0, true);
        }
        checks.says("Promise 3", "nothing HELD or going BACK, the bin empty, no TEARS, HOURS 0, it doesn't STAND, NOW 0");
        nothingOfBefore(x);
        x.set(3, 0, 1);
        x.go(1);
        checks.due("STANDS", x.state(6), 1);
        nothingOfBefore(x);
        checks.fine("so that ORE comes", x, x.go(1), 1);
        checks.due("TONS that came", x.state(13), 20);
        used(x);
        Checks.mill(x, ANEW);
        checks.says("Promise 3", "RATE 1, WATER 1, the first ORE");
        checks.due("RATE", x.state(14), 1);
        checks.due("WATER", x.state(15), 1);
        checks.due("ORE", x.state(16), 0);
        checks.says("Promise 3", "THE PROGRAM as at first, nothing seen, no TRY, no PLAN, no HOUR in which it stood");
        checks.due("THE PROGRAM: ROAR of 20", x.guess(0, 0, 0, 0, 0), 80);
        checks.due("nothing seen: size(10)", x.size(10), 0);
        checks.due("nothing seen: fits()", x.fits(), 100);
        checks.refused("no TRY", x, x.chance(), 5);
        checks.due("no TRY: clear()", x.clear(), 0);
        checks.due("no PLAN", x.rate(0), RoarMill.NONE);
        checks.noneLed(x, 0);
    }

    /** Whatever texts came ahead, sound or not. */
    private static void millOfItsTextAlone() {
        checks.in("a MILL is what its own text tells");
        String rich = Texts.with("size a breaks 100 next 0", "size b breaks 100 next 0", "size c", "sieve a slips 9",
            "price 9,9,9,9,9,9", "ore x hard 9 tons 50,50,50");
        String plain = Texts.with("size a", "size b", "size c", "ore x hard 1 tons 50");
        for (int between = 0; between < 3; between++) {
            RoarMill x = Checks.milled(rich);
            checks.due("GUESS of the one ahead: ROAR", x.guess(0, 0, 0, 0, 0), 0);
            for (int i = 0; i < between; i++) {
                Checks.mill(x, rich);
            }
            Checks.mill(x, rich + ";");
            Checks.mill(x, plain);
            checks.due("GUESS: ROAR", x.guess(0, 0, 0, 0, 0), 50);
            checks.due("fits()", x.fits(), 100);
            x.set(1, 0, 0);
            x.go(1);
            checks.due("TONS that came", x.state(13), 50);
            checks.due("none of it breaks", x.tons(0, 0), 40);
            checks.due("COST", x.state(12), 50);
        }
    }

    private static void millRefused() {
        checks.says("Promise 3", "NONE: 2 (THE TAPE stays)");
        RoarMill x = new RoarMill();
        checks.refused("mill(-1)", x, x.mill(-1), 2);
        checks.refused("mill(1) of an empty TAPE", x, x.mill(1), 2);
        int length = Checks.feed(x, GOOD);
        checks.refused("mill(-1)", x, x.mill(-1), 2);
        checks.refused("mill of one more than there are", x, x.mill(length + 1), 2);
        checks.refused("mill(MAX)", x, x.mill(Integer.MAX_VALUE), 2);
        checks.refused("mill(MIN)", x, x.mill(Integer.MIN_VALUE), 2);
        checks.due("size(11)", x.size(11), length);
        checks.fine("mill of all there are", x, x.mill(length), 2);
        checks.says("Promise 3", "4 (the MILL stays)");
        used(x);
        x.set(2, 3, 0);
        int roar = x.state(11);
        int held = x.tons(0, 0);
        checks.refused("mill(0)", x, x.mill(0), 4);
        Checks.feed(x, "size a;size b;size c;sieve c slips 9;liner 1;bin 1 draws 1;drum room 20 loud 11;price 1,2");
        checks.refused("mill of LACKS", x, x.mill(80), 4);
        checks.due("THE TAPE is empty then", x.size(11), 0);
        int[] sizes = {2, 1, 100, 100, 0, 0, 200, 999, 0, 1, 1, 0};
        for (int i = 0; i < sizes.length; i++) {
            checks.due("size(" + i + ")", x.size(i), sizes[i]);
        }
        checks.due("NOW", x.state(7), 24);
        checks.due("ROAR", x.state(11), roar);
        checks.due("HELD", x.tons(0, 0), held);
        checks.due("TEARS", x.state(5), 2);
        checks.due("RATE", x.state(14), 2);
        checks.due("PLAN", x.rate(0), 0);
        checks.due("clear()", x.clear(), 2);
    }

    private static void fault() {
        checks.says("Promise 4", "The FAULT of the latest mill() not refused by 2; 0 without one");
        RoarMill x = new RoarMill();
        checks.due("ahead of any", x.fault(), 0);
        x.mill(1);
        checks.due("only refused by 2", x.fault(), 0);
        Checks.mill(x, "liner 0");
        checks.due("fault()", x.fault(), 4);
        x.mill(99);
        checks.due("the one refused by 2 doesn't count", x.fault(), 4);
        x.go(1);
        x.chance();
        checks.due("other calls don't count", x.fault(), 4);
        Checks.mill(x, GOOD);
        checks.due("without one", x.fault(), 0);
        x.mill(0);
        checks.due("fault()", x.fault(), 1);
    }

    private static void where() {
        checks.says("Promise 5", "Its place, if the latest call that may be refused was by 4; NONE else");
        RoarMill x = new RoarMill();
        checks.due("ahead of any", x.where(), RoarMill.NONE);
        Checks.mill(x, "liner 0");
        checks.due("where()", x.where(), 6);
        x.feed(0, 0, 0, 0, 0);
        x.state(0);
        x.tons(0, 0);
        x.size(0);
        x.rate(0);
        x.forget();
        x.clear();
        x.fault();
        x.trouble();
        checks.noneLed(x, 0);
        checks.due("behind calls that may not be refused", x.where(), 6);
        x.go(1);
        checks.due("behind one refused otherwise", x.where(), RoarMill.NONE);
        x.mill(0);
        checks.due("a place of 0", x.where(), 0);
        x.mill(1);
        checks.due("behind a mill() refused by 2", x.where(), RoarMill.NONE);
        Checks.mill(x, "size A");
        checks.due("where()", x.where(), 5);
        Checks.mill(x, GOOD);
        checks.due("behind one that isn't refused", x.where(), RoarMill.NONE);
        x.mill(0);
        x.fits();
        checks.due("behind another call that isn't refused", x.where(), RoarMill.NONE);
    }

    private static void size() {
        checks.says("Promise 29", "0 SIZES, 1 ORES, 2 room, 3 loud, 4 the sieve's SIZE, 5 slips, 6 LIFE, 7 the bin's WHOLE, 8 draws,"
            + " 9 prices, 10 what was seen (how many), 11 bytes of THE TAPE");
        RoarMill x = Texts.mill("size a", "size b", "size c", "drum room 321 loud 123", "sieve c slips 45", "liner 67",
            "bin 89 draws 98", "price 7,6,5,4", "ore x hard 1 tons 1", "ore y hard 1 tons 1");
        x.seen(0, 0, 0, 0);
        x.seen(0, 0, 0, 0);
        x.feed(0, 0, 0, 0, 0);
        int[] sizes = {3, 2, 321, 123, 2, 45, 67, 89, 98, 4, 2, 20};
        for (int i = 0; i < sizes.length; i++) {
            checks.due("size(" + i + ")", x.size(i), sizes[i]);
        }
        checks.says("Promise 29", "NONE for others");
        for (int i : new int[] {-1, 12, Integer.MIN_VALUE, Integer.MAX_VALUE}) {
            checks.due("size(" + i + ")", x.size(i), RoarMill.NONE);
            checks.due("size(" + i + ") without a MILL", new RoarMill().size(i), RoarMill.NONE);
        }
        checks.says("Promise 29", "0 for what there isn't");
        for (int i = 0; i < 12; i++) {
            checks.due("size(" + i + ") without a MILL", new RoarMill().size(i), 0);
        }
    }
}
