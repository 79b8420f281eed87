/** Terms III up to SWAPPED and promises 11 to 18, sentence by sentence: each that names an edge has a test of its own. */
public final class EdgesOfFitsTest {
    private static final int[] WRONG = {-1, Integer.MIN_VALUE, Integer.MAX_VALUE};
    /** ROAR is 200 less FULL; by WATER 3 half of what is HELD passes. */
    private static final String[] PLAIN = {"drum room 200 loud 200", "ore x hard 1 tons 40", "ore y hard 1 tons 7"};

    private static final Checks checks = new Checks();

    public static void main(String[] args) {
        programAtFirst();
        startTears();
        startLiner();
        startFill();
        startBackAndBin();
        guessByTheProgram();
        upTo24();
        whatIsSeen();
        agrees();
        orderOfFits();
        swappedSamples();
        swappedFirstPair();
        program();
        programRefused();
        seen();
        seenRefused();
        forget();
        fits();
        fitAt();
        certain();
        guess();
        guessRefused();
        swapped();
        checks.finish();
    }

    private static void programAtFirst() {
        checks.says("Terms III", "THE PROGRAM: SETTINGS of HOURS 0 .. 11 (RATE 1, WATER 1, the first ORE, at first)");
        String text = Texts.with("size a breaks 60 next 50", "size b breaks 30 next 0", "size c", "sieve c slips 10", "liner 20",
            "ore x hard 2 tons 9,3", "ore y hard 9 tons 1,1,1");
        RoarMill x = Checks.milled(text);
        RoarMill run = Checks.milled(text);
        for (int hour = 0; hour < 12; hour++) {
            run.set(1, 1, 0);
            run.go(1);
            checks.due("ROAR of HOUR " + hour, x.guess(0, 0, 0, hour, 0), run.state(11));
            checks.due("POWER of HOUR " + hour, x.guess(0, 0, 0, hour, 1), run.state(10));
            for (int size = 0; size < 3; size++) {
                checks.due("passed in HOUR " + hour, x.guess(0, 0, 0, hour, 2 + size), run.tons(size, 2));
            }
        }
    }

    private static void startTears() {
        checks.says("Terms III", "A START: TEARS 0 .. 3");
        RoarMill x = Texts.mill("size a", "size b", "sieve b slips 50", "ore x hard 1 tons 50");
        int[] passed = {0, 7, 15, 15};
        for (int tears = 0; tears < 4; tears++) {
            checks.fine("TEARS " + tears, x, x.guess(tears, 0, 0, 0, 2), passed[tears]);
        }
        checks.refused("TEARS -1", x, x.guess(-1, 0, 0, 0, 2), 2);
        checks.refused("TEARS 4", x, x.guess(4, 0, 0, 0, 2), 2);
    }

    private static void startLiner() {
        checks.says("Terms III", "a liner 0 .. 4 (quarters of its LIFE old, downwards)");
        int[][] cases = {{1, 50, 50, 50, 50, 0}, {2, 50, 50, 25, 25, 25}, {3, 50, 50, 33, 16, 16}, {7, 50, 42, 28, 21, 21},
            {200, 50, 37, 25, 25, 25}};
        for (int[] c : cases) {
            RoarMill x = Texts.mill("liner " + c[0], "ore x hard 1 tons 50");
            for (int liner = 0; liner < 5; liner++) {
                checks.fine("POWER of LIFE " + c[0] + ", liner " + liner, x, x.guess(0, liner, 0, 0, 1), c[1 + liner]);
            }
            checks.refused("liner -1", x, x.guess(0, -1, 0, 0, 1), 2);
            checks.refused("liner 5", x, x.guess(0, 5, 0, 0, 1), 2);
        }
    }

    private static void startFill() {
        checks.says("Terms III", "a fill 0 .. 4 (so many times the first ORE's tons HELD)");
        RoarMill x = Texts.mill(PLAIN);
        x.program(0, 1, 1, 1);
        for (int fill = 0; fill < 5; fill++) {
            checks.fine("ROAR of fill " + fill, x, x.guess(0, 0, fill, 0, 0), 200 - 7 - 40 * fill);
        }
        checks.refused("fill -1", x, x.guess(0, 0, -1, 0, 0), 2);
        checks.refused("fill 5", x, x.guess(0, 0, 5, 0, 0), 2);
        x = Texts.mill("drum room 20 loud 50", "ore x hard 1 tons 5,1");
        x.program(0, 0, 1, 0);
        checks.due("18 of 20: ROAR", x.guess(0, 0, 3, 0, 0), 5);
        checks.due("24 of 20 STANDS: ROAR", x.guess(0, 0, 4, 0, 0), 0);
        checks.due("POWER", x.guess(0, 0, 4, 0, 1), 0);
        checks.due("passed", x.guess(0, 0, 4, 0, 2), 0);
        // 20 and 4: 3 and 1 are dug out, 20 of 20 go
        checks.due("then it goes: POWER", x.guess(0, 0, 4, 1, 1), 9);
    }

    /** Of what a GUESS tells and of what MARKS do nothing hangs on the bin: its half can't be seen from outside. */
    private static void startBackAndBin() {
        checks.says("Terms III", "nothing going BACK, the bin half full (downwards)");
        RoarMill x = Texts.mill("size a", "size b", "sieve b slips 0", "bin 7 draws 9", "ore x hard 1 tons 10");
        x.go(24);
        x.program(0, 0, 1, 0);
        checks.due("nothing HELD, nothing BACK: ROAR", x.guess(3, 4, 0, 0, 0), 100);
        checks.due("10 HELD, nothing BACK: ROAR", x.guess(3, 4, 1, 0, 0), 90);
        checks.due("THE STATE's bin stays", x.state(0), 0);
    }

    private static void guessByTheProgram() {
        checks.says("Terms III", "THE GUESS from a START by THE PROGRAM");
        RoarMill x = Texts.mill(PLAIN);
        x.set(3, 3, 1);
        x.mend(3, false);
        x.go(5);
        checks.due("neither by SETTINGS nor from THE STATE: ROAR", x.guess(0, 0, 0, 0, 0), 160);
        x.program(11, 3, 3, 1);
        RoarMill run = Texts.mill(PLAIN);
        run.set(1, 1, 0);
        run.go(11);
        run.set(3, 3, 1);
        run.go(1);
        checks.due("HOUR 11: ROAR", x.guess(0, 0, 0, 11, 0), run.state(11));
        checks.due("HOUR 11: passed", x.guess(0, 0, 0, 11, 2), run.tons(0, 2));
    }

    private static void upTo24() {
        checks.says("Terms III", "WHAT WAS SEEN, up to 24");
        RoarMill x = Texts.mill(PLAIN);
        for (int i = 1; i < 24; i++) {
            checks.fine("seen", x, x.seen(0, 0, 0, 999), i);
        }
        checks.fine("the 24th", x, x.seen(0, 0, 160, 0), 24);
        checks.due("the 24th counts: fits()", x.fits(), 20);
        checks.refused("a 25th", x, x.seen(0, 0, 999, 0), 3);
        checks.due("it doesn't count: fits()", x.fits(), 20);
        checks.due("size(10)", x.size(10), 24);
    }

    private static void whatIsSeen() {
        checks.says("Terms III", "of an HOUR 0 ROAR, 1 POWER, 2 and on what passed of a SIZE");
        RoarMill x = Texts.mill("size a breaks 100 next 50", "size b", "size c", "size d", "size e breaks 9 next 9", "sieve a slips 0",
            "ore x hard 1 tons 20,10,20,0,0");
        // EFFECT 100: 20 break, 10 of them to b, 10 to c; 30 hundredths of 0, 20, 30, 0, 0 pass
        int[] told = {50, 50, 0, 6, 9, 0, 0};
        for (int what = 0; what < told.length; what++) {
            x.forget();
            x.seen(0, 0, 50, 0);
            x.seen(0, 1, 50, 0);
            checks.fine("seen", x, x.seen(0, what, told[what], 0), 3);
            checks.due("what " + what + ": fill", x.certain(2), 0);
            x.seen(0, what, told[what] + 1, 0);
            checks.due("what " + what + " is another: fits()", x.fits(), 0);
        }
        checks.refused("what 7", x, x.seen(0, 7, 0, 0), 1);
    }

    private static void agrees() {
        checks.says("Terms III", "a value and how far it may be off");
        int[][] cases = {{140, 20, 40}, {140, 19, 0}, {139, 20, 20}, {141, 20, 20}, {160, 0, 20}, {161, 0, 0}, {159, 0, 0},
            {0, 0, 20}, {0, 39, 20}, {0, 40, 40}, {999, 839, 20}, {999, 838, 0}, {999, 999, 100}, {999999, 999, 0}};
        for (int[] c : cases) {
            RoarMill x = Texts.mill(PLAIN);
            x.seen(0, 0, c[0], c[1]);
            checks.due("fits() of ROAR " + c[0] + ", off " + c[1], x.fits(), c[2]);
        }
        checks.says("Terms III", "FITS: STARTS whose GUESS agrees with all that was seen");
        RoarMill x = Texts.mill(PLAIN);
        checks.due("nothing seen: all", x.fits(), 100);
        x.seen(0, 0, 140, 20);
        x.seen(0, 0, 100, 20);
        checks.due("fill 1 alone agrees with both", x.fits(), 20);
        checks.due("fill", x.certain(2), 1);
        x.seen(0, 0, 100, 19);
        checks.due("none agrees with all three", x.fits(), 0);
    }

    private static void orderOfFits() {
        checks.says("Terms III", "by TEARS, liners, fills");
        RoarMill x = Texts.mill(PLAIN);
        x.seen(0, 0, 100, 20);
        int i = 0;
        for (int tears = 0; tears < 4; tears++) {
            for (int liner = 0; liner < 5; liner++) {
                for (int fill = 1; fill < 3; fill++) {
                    checks.due("TEARS of " + i, x.fitAt(i, 0), tears);
                    checks.due("liner of " + i, x.fitAt(i, 1), liner);
                    checks.due("fill of " + i, x.fitAt(i, 2), fill);
                    i++;
                }
            }
        }
        checks.due("fits()", x.fits(), i);
    }

    /** 40 come in HOURS 0 and 6 and half of it passes: 20, 10, 5, 2, 1, 1, then 20, 10, 5, 3, 1, 1. */
    private static RoarMill decaying(String ore) {
        RoarMill x = Texts.mill("drum room 200 loud 200", ore);
        for (int hour = 0; hour < 12; hour++) {
            x.program(hour, hour % 6 == 0 ? 1 : 0, 3, 0);
        }
        return x;
    }

    private static void swappedSamples() {
        checks.says("Terms III", "SWAPPED: two HOURS whose samples (all seen of what passed) told one for the other make FITS where there are"
            + " none");
        // b passes 4, 2, 1, then none
        RoarMill x = decaying("ore x hard 1 tons 40,8");
        x.seen(0, 0, 152, 0);
        x.seen(0, 2, 10, 0);
        x.seen(1, 2, 20, 0);
        x.seen(0, 3, 2, 0);
        x.seen(1, 3, 4, 0);
        x.seen(1, 0, 176, 0);
        checks.fine("all of both SIZES", x, x.swapped(), 1);
        checks.due("what was seen stays: size(10)", x.size(10), 6);
        checks.due("fits()", x.fits(), 0);
        x.seen(0, 3, 4, 0);
        checks.fine("one that wasn't changed spoils it", x, x.swapped(), -2);
        x = decaying("ore x hard 1 tons 40");
        x.seen(0, 0, 180, 0);
        x.seen(1, 0, 160, 0);
        checks.fine("ROARS are no samples", x, x.swapped(), -2);
        x.forget();
        x.seen(0, 1, x.guess(0, 0, 0, 1, 1), 0);
        x.seen(1, 1, x.guess(0, 0, 0, 0, 1), 0);
        x.seen(0, 0, 160, 0);
        checks.fine("POWERS are no samples", x, x.swapped(), -2);
        // what was seen of ROAR stays at its HOUR: 160 and 180 are right
        x.forget();
        x.seen(0, 0, 160, 0);
        x.seen(1, 0, 180, 0);
        x.seen(0, 2, 10, 0);
        x.seen(1, 2, 20, 0);
        checks.fine("ROARS stay at their HOURS", x, x.swapped(), 1);
    }

    private static void swappedPair(int[][] samples, int want) {
        RoarMill x = decaying("ore x hard 1 tons 40");
        x.seen(0, 0, 160, 0);
        for (int[] s : samples) {
            x.seen(s[0], 2, s[1], s[2]);
        }
        checks.due("fits()", x.fits(), 0);
        checks.fine("swapped()", x, x.swapped(), want);
    }

    private static void swappedFirstPair() {
        checks.says("Terms III", "the first pair by the lesser, then the other");
        // HOUR 3 is told 10: HOURS 1 and 7 have it, and theirs would do for HOUR 3
        swappedPair(new int[][] {{3, 10, 0}, {1, 5, 5}, {7, 5, 5}}, 103);
        // HOUR 1 is told 5: HOURS 2 and 8 have it, and theirs would do for HOUR 1
        swappedPair(new int[][] {{1, 5, 0}, {2, 10, 5}, {8, 10, 5}}, 102);
        // but HOUR 2 alone has its own: so HOUR 8
        swappedPair(new int[][] {{1, 5, 0}, {2, 5, 0}, {8, 10, 5}}, 108);
        swappedPair(new int[][] {{8, 10, 5}, {2, 5, 0}, {1, 5, 0}}, 108);
        // HOUR 6 is told 1: HOURS 4, 5, 10 and 11 have it; 4 has its own
        swappedPair(new int[][] {{6, 1, 0}, {4, 1, 0}, {5, 10, 10}, {10, 10, 10}, {11, 10, 10}}, 506);
        checks.in("the first and the last HOUR");
        swappedPair(new int[][] {{0, 1, 0}, {11, 20, 0}}, 11);
        RoarMill x = decaying("ore x hard 1 tons 40");
        x.program(10, 1, 3, 0);
        x.seen(0, 0, 160, 0);
        // 3 and 40: 21 pass, then 11
        x.seen(10, 2, 11, 0);
        x.seen(11, 2, 21, 0);
        checks.fine("the last pair", x, x.swapped(), 1011);
        checks.in("an HOUR without samples may be the other");
        swappedPair(new int[][] {{3, 10, 0}}, 103);
    }

    private static void program() {
        checks.says("Promise 11", "SETTINGS of an HOUR of THE PROGRAM: true");
        RoarMill x = Texts.mill(PLAIN);
        checks.fine("program(0, 0, 0, 0)", x, x.program(0, 0, 0, 0));
        checks.due("HOUR 0: ROAR", x.guess(0, 0, 0, 0, 0), 200);
        checks.due("HOUR 1 as at first: ROAR", x.guess(0, 0, 0, 1, 0), 160);
        checks.fine("program(0, 3, 3, 1)", x, x.program(0, 3, 3, 1));
        checks.due("HOUR 0: ROAR", x.guess(0, 0, 0, 0, 0), 179);
        checks.due("HOUR 0: passed", x.guess(0, 0, 0, 0, 2), 10);
        int before = x.guess(0, 0, 0, 11, 0);
        checks.fine("program(11, 0, 1, 0)", x, x.program(11, 0, 1, 0));
        checks.due("HOUR 11: ROAR", x.guess(0, 0, 0, 11, 0), before + 40);
        checks.due("the SETTINGS stay", x.state(14) * 100 + x.state(15) * 10 + x.state(16), 110);
    }

    private static void programRefused() {
        checks.says("Promise 11", "false: 1 (HOUR, ORE, no MILL)");
        RoarMill x = Texts.mill(PLAIN);
        RoarMill none = new RoarMill();
        checks.refused("no MILL", none, none.program(0, 1, 1, 0), 1);
        checks.refused("no MILL, RATE 4", none, none.program(0, 4, 1, 0), 1);
        checks.refused("HOUR 12", x, x.program(12, 0, 0, 0), 1);
        checks.refused("HOUR 12, RATE 4", x, x.program(12, 4, 0, 0), 1);
        checks.refused("ORE 2", x, x.program(0, 0, 0, 2), 1);
        checks.refused("ORE 2, WATER 4", x, x.program(0, 0, 4, 2), 1);
        for (int wrong : WRONG) {
            checks.refused("HOUR " + wrong, x, x.program(wrong, 0, 0, 0), 1);
            checks.refused("ORE " + wrong, x, x.program(0, 0, 0, wrong), 1);
        }
        checks.says("Promise 11", "2.");
        checks.refused("RATE 4", x, x.program(0, 4, 0, 0), 2);
        checks.refused("WATER 4", x, x.program(0, 0, 4, 0), 2);
        for (int wrong : WRONG) {
            checks.refused("RATE " + wrong, x, x.program(0, wrong, 0, 0), 2);
            checks.refused("WATER " + wrong, x, x.program(0, 0, wrong, 0), 2);
        }
        checks.due("THE PROGRAM stays: ROAR", x.guess(0, 0, 0, 0, 0), 160);
        checks.due("passed", x.guess(0, 0, 0, 0, 2), 12);
    }

    private static void seen() {
        checks.says("Promise 12", "What was seen of an HOUR: how many there are");
        RoarMill x = Texts.mill(PLAIN);
        checks.fine("HOUR 0", x, x.seen(0, 0, 0, 999), 1);
        checks.fine("HOUR 11", x, x.seen(11, 1, 0, 999), 2);
        checks.fine("the same again counts", x, x.seen(11, 1, 0, 999), 3);
        checks.fine("the last SIZE", x, x.seen(11, 3, 0, 999), 4);
        checks.due("forget()", x.forget(), 4);
        checks.fine("from the first on", x, x.seen(0, 0, 0, 0), 1);
    }

    private static void seenRefused() {
        RoarMill x = Texts.mill(PLAIN);
        RoarMill none = new RoarMill();
        checks.says("Promise 12", "NONE: 1 (HOUR, what)");
        checks.refused("HOUR 12", x, x.seen(12, 0, 1, 0), 1);
        checks.refused("what 4 of two SIZES", x, x.seen(0, 4, 1, 0), 1);
        checks.refused("what 4, a wrong value", x, x.seen(0, 4, -1, 0), 1);
        for (int wrong : WRONG) {
            checks.refused("HOUR " + wrong, x, x.seen(wrong, 0, 1, 0), 1);
            checks.refused("what " + wrong, x, x.seen(0, wrong, 1, 0), 1);
        }
        checks.refused("no MILL: of a SIZE", none, none.seen(0, 2, 1, 0), 1);
        checks.refused("no MILL: HOUR 12", none, none.seen(12, 0, 1, 0), 1);
        checks.says("Promise 12", "2 (value 0 .. 999,999, off 0 .. 999)");
        checks.refused("value 1,000,000", x, x.seen(0, 0, 1000000, 0), 2);
        checks.refused("off 1000", x, x.seen(0, 0, 1, 1000), 2);
        for (int wrong : WRONG) {
            checks.refused("value " + wrong, x, x.seen(0, 0, wrong, 0), 2);
            checks.refused("off " + wrong, x, x.seen(0, 0, 1, wrong), 2);
        }
        checks.due("nothing was seen: size(10)", x.size(10), 0);
        checks.due("fits()", x.fits(), 100);
        checks.fine("value 999,999, off 999", x, x.seen(0, 0, 999999, 999), 1);
        checks.fine("value 0, off 0", x, x.seen(0, 0, 0, 0), 2);
        checks.says("Promise 12", "3.");
        for (int i = 3; i <= 24; i++) {
            x.seen(0, 0, 0, 0);
        }
        checks.refused("a 25th", x, x.seen(0, 0, 0, 0), 3);
        checks.refused("a 25th, a wrong value", x, x.seen(0, 0, -1, 0), 2);
        checks.refused("a 25th, HOUR 12", x, x.seen(12, 0, 0, 0), 1);
    }

    private static void forget() {
        checks.says("Promise 13", "Nothing is seen any more: how many there were");
        RoarMill x = Texts.mill(PLAIN);
        checks.due("of none", x.forget(), 0);
        for (int i = 0; i < 24; i++) {
            x.seen(0, 0, 1, 0);
        }
        checks.due("fits()", x.fits(), 0);
        checks.due("of 24", x.forget(), 24);
        checks.due("then of none", x.forget(), 0);
        checks.due("fits()", x.fits(), 100);
        checks.fine("there is room", x, x.seen(0, 0, 1, 0), 1);
        checks.due("no MILL", new RoarMill().forget(), 0);
    }

    private static void fits() {
        checks.says("Promise 14", "How many FITS");
        RoarMill x = Texts.mill(PLAIN);
        checks.fine("all", x, x.fits(), 100);
        x.seen(0, 0, 160, 0);
        checks.fine("some", x, x.fits(), 20);
        x.seen(0, 0, 161, 0);
        checks.fine("none", x, x.fits(), 0);
        x.forget();
        x.seen(0, 0, 160, 0);
        x.program(0, 2, 1, 0);
        checks.fine("by THE PROGRAM as it is now: 80 come", x, x.fits(), 0);
        x.program(0, 0, 1, 0);
        checks.fine("none comes", x, x.fits(), 20);
        checks.due("fill", x.certain(2), 1);
        checks.says("Promise 14", "NONE: 1 (no MILL)");
        RoarMill none = new RoarMill();
        checks.refused("fits()", none, none.fits(), 1);
    }

    private static void fitAt() {
        checks.says("Promise 15", "Of the i-th of FITS what 0 TEARS, 1 liner, 2 fill");
        RoarMill x = Texts.mill(PLAIN);
        int[] last = {3, 4, 4};
        for (int what = 0; what < 3; what++) {
            checks.fine("the first", x, x.fitAt(0, what), 0);
            checks.fine("the last of all", x, x.fitAt(99, what), last[what]);
        }
        checks.says("Promise 15", "NONE: 1");
        checks.refused("one behind all", x, x.fitAt(100, 0), 1);
        checks.refused("what 3", x, x.fitAt(0, 3), 1);
        for (int wrong : WRONG) {
            checks.refused("i " + wrong, x, x.fitAt(wrong, 0), 1);
            checks.refused("what " + wrong, x, x.fitAt(0, wrong), 1);
        }
        x.seen(0, 0, 160, 0);
        checks.fine("the last of 20", x, x.fitAt(19, 0), 3);
        checks.refused("one behind them", x, x.fitAt(20, 0), 1);
        x.seen(0, 0, 161, 0);
        checks.refused("of none", x, x.fitAt(0, 0), 1);
        RoarMill none = new RoarMill();
        checks.refused("no MILL", none, none.fitAt(0, 0), 1);
    }

    private static void certain() {
        checks.says("Promise 16", "What all FITS have alike (what 0 .. 2 as there); -2 if they haven't");
        RoarMill x = Texts.mill(PLAIN);
        for (int what = 0; what < 3; what++) {
            checks.fine("of all", x, x.certain(what), -2);
        }
        x.seen(0, 0, 0, 0);
        checks.fine("fill", x, x.certain(2), 4);
        checks.fine("TEARS", x, x.certain(0), -2);
        checks.fine("liner", x, x.certain(1), -2);
        // ROARS 0 to 40 are fills 3 and 4
        x.forget();
        x.seen(0, 0, 20, 20);
        checks.fine("two fills", x, x.certain(2), -2);
        x.forget();
        x.seen(0, 0, 160, 0);
        checks.fine("0 is no NONE", x, x.certain(2), 0);
        justTwo();
        checks.says("Promise 16", "NONE: 1; 6 (no FITS)");
        checks.refused("what 3", x, x.certain(3), 1);
        for (int wrong : WRONG) {
            checks.refused("what " + wrong, x, x.certain(wrong), 1);
        }
        RoarMill none = new RoarMill();
        checks.refused("no MILL", none, none.certain(0), 1);
        x.seen(0, 0, 161, 0);
        checks.refused("no FITS", x, x.certain(0), 6);
        checks.refused("no FITS, what 3", x, x.certain(3), 1);
    }

    /** POWER is 50, by the liner 37 or 25; of a 15 are out, of which 0, 4, 9 or 14 pass by TEARS. */
    private static RoarMill telling() {
        RoarMill x = Texts.mill("size a", "size b", "sieve b slips 33", "ore x hard 1 tons 50");
        x.seen(0, 0, 50, 0);
        return x;
    }

    private static void justTwo() {
        RoarMill x = telling();
        x.seen(0, 2, 0, 0);
        x.seen(0, 1, 44, 7);
        checks.due("fits()", x.fits(), 2);
        checks.fine("two, the second is another: liner", x, x.certain(1), -2);
        checks.fine("fill", x, x.certain(2), 0);
        x.seen(0, 1, 50, 0);
        checks.due("fits()", x.fits(), 1);
        for (int what = 0; what < 3; what++) {
            checks.fine("one alone, the first START", x, x.certain(what), 0);
        }
        checks.refused("one alone: swapped()", x, x.swapped(), 5);
        x.forget();
        x.seen(0, 0, 50, 0);
        x.seen(0, 2, 14, 1);
        x.seen(0, 1, 37, 0);
        checks.due("fits()", x.fits(), 1);
        checks.fine("one alone: TEARS", x, x.certain(0), 3);
        checks.fine("one alone: liner", x, x.certain(1), 1);
    }

    private static void guess() {
        checks.says("Promise 17", "Of a GUESS from a START in an HOUR (0 .. 11) what 0 ROAR, 1 POWER, 2 and on what passed of a SIZE");
        RoarMill x = Texts.mill("drum room 200 loud 200", "ore x hard 1 tons 40,20");
        // 60 of 200: EFFECT 80
        int[] told = {140, 48, 12, 6};
        for (int what = 0; what < 4; what++) {
            checks.fine("HOUR 0, what " + what, x, x.guess(0, 0, 0, 0, what), told[what]);
            checks.due("HOUR 11, what " + what, x.guess(3, 4, 4, 11, what) >= 0, true);
        }
    }

    private static void guessRefused() {
        RoarMill x = Texts.mill(PLAIN);
        RoarMill none = new RoarMill();
        checks.says("Promise 17", "NONE: 1 (HOUR, what, no MILL)");
        checks.refused("no MILL", none, none.guess(0, 0, 0, 0, 0), 1);
        checks.refused("no MILL, TEARS 4", none, none.guess(4, 0, 0, 0, 0), 1);
        checks.refused("HOUR 12", x, x.guess(0, 0, 0, 12, 0), 1);
        checks.refused("HOUR 12, TEARS 4", x, x.guess(4, 0, 0, 12, 0), 1);
        checks.refused("what 4 of two SIZES", x, x.guess(0, 0, 0, 0, 4), 1);
        checks.refused("what 4, fill 5", x, x.guess(0, 0, 5, 0, 4), 1);
        for (int wrong : WRONG) {
            checks.refused("HOUR " + wrong, x, x.guess(0, 0, 0, wrong, 0), 1);
            checks.refused("what " + wrong, x, x.guess(0, 0, 0, 0, wrong), 1);
        }
        checks.says("Promise 17", "2 (of the START)");
        checks.refused("TEARS 4", x, x.guess(4, 0, 0, 0, 0), 2);
        checks.refused("liner 5", x, x.guess(0, 5, 0, 0, 0), 2);
        checks.refused("fill 5", x, x.guess(0, 0, 5, 0, 0), 2);
        for (int wrong : WRONG) {
            checks.refused("TEARS " + wrong, x, x.guess(wrong, 0, 0, 0, 0), 2);
            checks.refused("liner " + wrong, x, x.guess(0, wrong, 0, 0, 0), 2);
            checks.refused("fill " + wrong, x, x.guess(0, 0, wrong, 0, 0), 2);
        }
    }

    private static void swapped() {
        checks.says("Promise 18", "SWAPPED: 100 times the lesser HOUR and the other; -2 if there is no such pair");
        swappedPair(new int[][] {{0, 10, 0}, {1, 20, 0}}, 1);
        swappedPair(new int[][] {{2, 20, 0}, {6, 5, 0}}, 206);
        swappedPair(new int[][] {{2, 21, 0}, {6, 5, 0}}, -2);
        // one START alone agrees, the first of all or the last
        RoarMill one = Texts.mill("drum room 400 loud 200", "size a", "size b", "sieve b slips 30", "ore x hard 1 tons 50,10");
        for (int start = 0; start < 2; start++) {
            one.forget();
            for (int hour = 0; hour < 2; hour++) {
                one.seen(hour, 0, one.guess(3 * start, 4 * start, 4 * start, hour, 0), 0);
                one.seen(hour, 1, one.guess(3 * start, 4 * start, 4 * start, hour, 1), 0);
                one.seen(hour, 2, one.guess(3 * start, 4 * start, 4 * start, 1 - hour, 2), 0);
                one.seen(hour, 3, one.guess(3 * start, 4 * start, 4 * start, 1 - hour, 3), 0);
            }
            checks.fine("START " + 99 * start, one, one.swapped(), 1);
        }
        checks.says("Promise 18", "NONE: 1 (no MILL); 5 (there are FITS)");
        RoarMill none = new RoarMill();
        checks.refused("no MILL", none, none.swapped(), 1);
        RoarMill x = decaying("ore x hard 1 tons 40");
        checks.refused("nothing seen", x, x.swapped(), 5);
        x.seen(0, 0, 160, 0);
        x.seen(1, 2, 10, 0);
        checks.refused("there are FITS", x, x.swapped(), 5);
        x.seen(1, 2, 9, 0);
        checks.fine("there are none", x, x.swapped(), -2);
    }
}
