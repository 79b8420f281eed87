/** Terms III of MARKS, Terms IV, promises 27 and 30, sentence by sentence: each that names an edge has a test of its own. */
public final class EdgesOfMarksTest {
    private static final int[] WRONG = {-1, 12, Integer.MIN_VALUE, Integer.MAX_VALUE};

    private static final Checks checks = new Checks();

    public static void main(String[] args) {
        atTheBeginning();
        sameShares();
        downwards();
        itStands();
        backComes();
        marks();
        marksRefused();
        theLatestCall();
        troubles();
        trouble();
        fiveHundredAndTwelveCalls();
        checks.finish();
    }

    private static void atTheBeginning() {
        checks.says("Terms III", "MARKS: 1,000,000 of a SIZE HELD at the beginning of an HOUR of a GUESS");
        RoarMill x = Texts.mill("size a", "size b", "ore x hard 1 tons 10");
        for (int hour = 0; hour < 12; hour++) {
            x.program(hour, hour % 4, hour % 4, 0);
            // in their first HOUR (20 and 10 times WATER) hundredths pass
            checks.fine("of a, HOUR " + hour, x, x.marks(0, 0, 0, 0, hour, hour), (20 + 10 * (hour % 4)) * 10000);
            checks.fine("of b, of which there is none HELD, HOUR " + hour, x, x.marks(0, 0, 0, 1, hour, hour),
                (20 + 10 * (hour % 4)) * 10000);
        }
    }

    /** Nothing is HELD (RATE 0, fill 0), so that EFFECT is 50, and 49 from HOUR 1 on; MARKS break all the same. */
    private static RoarMill empty(String... lines) {
        RoarMill x = Texts.mill(lines);
        for (int hour = 0; hour < 12; hour++) {
            x.program(hour, 0, 3, 0);
        }
        return x;
    }

    private static void sameShares() {
        checks.says("Terms III", "led by the same shares as what is HELD (broken, out, passed, BACK;");
        RoarMill x = empty("size a breaks 100 next 40", "size b breaks 100 next 0", "size c", "sieve c slips 50");
        // of a 500,000 break: 200,000 to b, 300,000 to c; half of each is out; of a and b TEARS halves of it pass
        checks.fine("TEARS 0", x, x.marks(0, 0, 0, 0, 0, 0), 150000);
        checks.fine("TEARS 1", x, x.marks(1, 0, 0, 0, 0, 0), 150000 + 125000 + 50000);
        checks.fine("TEARS 2", x, x.marks(2, 0, 0, 0, 0, 0), 150000 + 250000 + 100000);
        checks.fine("TEARS 3: 100 at most", x, x.marks(3, 0, 0, 0, 0, 0), 500000);
        // of b 500,000 break, without one behind the next
        checks.fine("of b", x, x.marks(0, 0, 0, 1, 0, 0), 250000);
        checks.fine("of c", x, x.marks(0, 0, 0, 2, 0, 0), 500000);
        // by a liner half its LIFE old EFFECT is 25: of a 250,000 break, 150,000 of them to c
        checks.fine("by the liner", x, x.marks(0, 2, 0, 0, 0, 0), 75000);
        x = empty("size a breaks 100 next 100", "size b breaks 100 next 100", "sieve b slips 0");
        // the last one never breaks; 1,000,000 by halves
        checks.fine("of the last", x, x.marks(0, 0, 0, 1, 0, 2), 875000);
    }

    private static void downwards() {
        checks.says("Terms III", "each downwards of MARKS themselves");
        RoarMill x = empty("size a", "size b");
        // halves downwards: 500,000, 250,000, 125,000, 62,500, 31,250, 15,625, 7,812 of 15,625, 3,906 of 7,813, 1,953 of 3,907, ..
        int[] passed = {500000, 750000, 875000, 937500, 968750, 984375, 992187, 996093, 998046, 999023, 999511, 999755};
        for (int by = 0; by < 12; by++) {
            checks.fine("by HOUR " + by, x, x.marks(0, 0, 0, 0, 0, by), passed[by]);
        }
        x = empty("size a breaks 33 next 33", "size b", "size c", "sieve b slips 0");
        // HOUR 0: 165,000 break: 54,450 to b, 110,550 to c; out and passed 27,225 and 55,275; 417,500 BACK
        checks.fine("by HOUR 0", x, x.marks(0, 0, 0, 0, 0, 0), 27225 + 55275);
        // HOUR 1, EFFECT 49: of 835,000 135,019 (.5) break: 44,556 (.27) to b, 90,463 to c; of 71,781 35,890; of 145,738 72,869
        checks.fine("by HOUR 1", x, x.marks(0, 0, 0, 0, 0, 1), 27225 + 55275 + 35890 + 72869);
    }

    /**
     * HOUR 0: 10 of 20, EFFECT 100; 500,000 of a break, 150,000 go BACK, 150,000 of b pass. In HOUR 1 50 of b come: it STANDS
     * up to HOUR 8; in HOUR 9 20 of 20 are left: EFFECT 47.
     */
    private static RoarMill standing() {
        RoarMill x = Texts.mill("drum room 20 loud 20", "size a breaks 50 next 100", "size b", "sieve b slips 0", "ore x hard 1 tons 10",
            "ore y hard 1 tons 0,50");
        x.program(1, 1, 1, 1);
        return x;
    }

    private static void itStands() {
        checks.says("Terms III", "in an HOUR in which it STANDS they stay, none is dug out");
        RoarMill x = standing();
        for (int hour = 1; hour < 9; hour++) {
            checks.due("POWER of HOUR " + hour, x.guess(0, 0, 0, hour, 1), 0);
            checks.fine("of a by HOUR " + hour, x, x.marks(0, 0, 0, 0, 0, hour), 150000);
            checks.fine("of b in HOUR " + hour, x, x.marks(0, 0, 0, 1, hour, hour), 0);
        }
        checks.due("POWER of HOUR 9", x.guess(0, 0, 0, 9, 1), 9);
        // none was dug out: 30 hundredths of 1,000,000
        checks.fine("of b from HOUR 1 on", x, x.marks(0, 0, 0, 1, 1, 9), 300000);
    }

    private static void backComes() {
        checks.says("Terms III", "those going BACK come into the drum as all does");
        RoarMill x = standing();
        // also while it STANDS: HOUR 9 finds 500,000 of a: 117,500 break; of 467,500 of b 140,250 pass
        checks.fine("by HOUR 9", x, x.marks(0, 0, 0, 0, 0, 9), 150000 + 140250);
        x = empty("size a", "size b", "sieve b slips 50");
        // TEARS 1: half is out, half of it passes, the rest comes again: 250,000 of 1,000,000, 187,500 of 750,000
        checks.fine("by HOUR 0", x, x.marks(1, 0, 0, 0, 0, 0), 250000);
        checks.fine("by HOUR 1", x, x.marks(1, 0, 0, 0, 0, 1), 437500);
    }

    private static void marks() {
        checks.says("Promise 27", "Of MARKS of a SIZE HELD at the beginning of an HOUR of a GUESS how many have passed by the end of another one"
            + " (as any SIZE)");
        RoarMill x = empty("size a breaks 100 next 0", "size b", "size c", "sieve a slips 0");
        // half breaks and becomes c: half of either is out and passes
        checks.fine("by the end of the same", x, x.marks(0, 0, 0, 0, 0, 0), 500000);
        checks.fine("the last HOUR", x, x.marks(0, 0, 0, 0, 11, 11), 500000);
        checks.fine("all HOURS", x, x.marks(0, 0, 0, 0, 0, 11) > 999000);
        checks.fine("of the last START", x, x.marks(3, 4, 4, 2, 0, 11) > 999000);
        checks.due("THE STATE stays: NOW", x.state(7), 0);
        checks.due("HELD", x.tons(0, 0), 0);
        RoarMill used = empty("size a breaks 100 next 0", "size b", "size c", "sieve a slips 0");
        used.mend(3, false);
        used.go(24);
        used.set(0, 0, 0);
        checks.fine("THE STATE is no matter", used, used.marks(0, 0, 0, 0, 0, 3), x.marks(0, 0, 0, 0, 0, 3));
    }

    private static void marksRefused() {
        RoarMill x = Texts.mill();
        RoarMill none = new RoarMill();
        checks.says("Promise 27", "NONE: 1 (SIZE, HOURS 0 .. 11, no MILL)");
        checks.refused("no MILL", none, none.marks(0, 0, 0, 0, 0, 0), 1);
        checks.refused("no MILL, TEARS 4", none, none.marks(4, 0, 0, 0, 1, 0), 1);
        checks.refused("SIZE 2 of two", x, x.marks(0, 0, 0, 2, 0, 0), 1);
        checks.refused("SIZE 2, fill 5", x, x.marks(0, 0, 5, 2, 0, 0), 1);
        for (int wrong : WRONG) {
            checks.refused("SIZE " + wrong, x, x.marks(0, 0, 0, wrong, 0, 0), 1);
            checks.refused("HOUR " + wrong, x, x.marks(0, 0, 0, 0, wrong, 11), 1);
            checks.refused("the other HOUR " + wrong, x, x.marks(0, 0, 0, 0, 0, wrong), 1);
            checks.refused("the other HOUR " + wrong + ", TEARS 4", x, x.marks(4, 0, 0, 0, 11, wrong), 1);
        }
        checks.says("Promise 27", "2 (of the START; the other HOUR ahead)");
        checks.refused("TEARS 4", x, x.marks(4, 0, 0, 0, 0, 0), 2);
        checks.refused("liner 5", x, x.marks(0, 5, 0, 0, 0, 0), 2);
        checks.refused("fill 5", x, x.marks(0, 0, 5, 0, 0, 0), 2);
        for (int wrong : WRONG) {
            checks.refused("TEARS " + wrong, x, x.marks(wrong, 0, 0, 0, 0, 0), 2);
            checks.refused("liner " + wrong, x, x.marks(0, wrong, 0, 0, 0, 0), 2);
            checks.refused("fill " + wrong, x, x.marks(0, 0, wrong, 0, 0, 0), 2);
        }
        checks.refused("1 ahead", x, x.marks(0, 0, 0, 0, 1, 0), 2);
        checks.refused("11 ahead", x, x.marks(0, 0, 0, 0, 11, 0), 2);
        checks.fine("the same", x, x.marks(0, 0, 0, 0, 1, 1), 300000);
    }

    private static void theLatestCall() {
        checks.says("Terms IV", "TROUBLE of the latest call that may be refused (those of which a number is told here)");
        RoarMill x = Texts.mill();
        checks.due("mill() wasn't", x.trouble(), 0);
        x.go(0);
        x.feed(0, 0, 0, 0, 0);
        x.fault();
        x.where();
        x.tons(-1, -1);
        x.state(-1);
        x.forget();
        x.rate(-1);
        x.clear();
        x.size(-1);
        x.trouble();
        checks.noneLed(x, -1);
        checks.due("calls that may not be refused", x.trouble(), 2);
        for (int i = 0; i < 40; i++) {
            x.feed(0, 0, 0, 0, 0);
        }
        checks.due("a feed() that answered NONE", x.trouble(), 2);
    }

    private static void allowed(String call, RoarMill x, boolean heard) {
        checks.due(call, heard, true);
        checks.due(call + ", then trouble()", x.trouble(), 0);
        x.go(0);
        checks.due("go(0), then trouble()", x.trouble(), 2);
    }

    private static void troubles() {
        checks.says("Terms IV", "0 it wasn't");
        RoarMill x = Texts.mill();
        x.go(0);
        allowed("set", x, x.set(1, 1, 0));
        allowed("mend", x, x.mend(0, false));
        allowed("go", x, x.go(1) == 1);
        allowed("program", x, x.program(0, 1, 1, 0));
        allowed("seen", x, x.seen(0, 0, 0, 999) == 1);
        allowed("fits", x, x.fits() == 100);
        allowed("fitAt", x, x.fitAt(0, 0) == 0);
        allowed("certain", x, x.certain(0) == -2);
        allowed("guess", x, x.guess(0, 0, 0, 0, 0) == 90);
        allowed("plan", x, x.plan(1) >= 0);
        allowed("rule", x, x.rule(1) >= 0);
        allowed("lacks", x, x.lacks(1) == 0);
        allowed("number", x, x.number(true, 1) == 1);
        allowed("number", x, x.number(false, 1) == 1);
        allowed("chance", x, x.chance() == 2);
        allowed("splits", x, x.splits() == 2);
        allowed("marks", x, x.marks(0, 0, 0, 0, 0, 0) == 300000);
        x.seen(0, 0, 999, 0);
        allowed("swapped", x, x.swapped() == -2);
        allowed("mill", x, Checks.mill(x, Texts.with()) == 2);
    }

    private static void trouble() {
        checks.says("Terms IV", "1 there is none such; 2 a number; 3 no room; 4 a FAULT; 5 not so; 6 there is no way");
        RoarMill x = new RoarMill();
        checks.refused("go(1) without a MILL", x, x.go(1), 1);
        checks.refused("mill(1) of an empty TAPE", x, x.mill(1), 2);
        checks.refused("mill(0)", x, x.mill(0), 4);
        checks.refused("chance()", x, x.chance(), 5);
        x = Texts.mill("bin 999 draws 200");
        checks.refused("plan(1)", x, x.plan(1), 6);
        for (int i = 0; i < 8; i++) {
            x.number(true, 1);
        }
        checks.refused("a ninth", x, x.number(true, 1), 3);
        checks.says("Promise 30", "TROUBLE.");
        checks.due("of a new object", new RoarMill().trouble(), 0);
        checks.due("trouble()", x.trouble(), 3);
        checks.due("asking leaves it", x.trouble(), 3);
    }

    /** An object is used for at most 512 calls: the last of them is answered like the others. */
    private static void fiveHundredAndTwelveCalls() {
        checks.in("512 calls");
        RoarMill x = new RoarMill();
        Checks.feed(x, Texts.with("drum room 20 loud 20", "ore x hard 1 tons 50,50"));
        // size(11) and 6 or 7 feeds
        int calls = 2 + x.size(11) / 20;
        x.mill(x.size(11));
        calls += 2;
        while (calls < 512 - 72) {
            x.go(1);
            calls++;
        }
        for (int i = 0; i < 24; i++) {
            checks.due("seen", x.seen(i % 12, 0, 0, 999), i + 1);
        }
        for (int i = 0; i < 8; i++) {
            checks.due("before", x.number(false, i), i + 1);
            checks.due("after", x.number(true, i), i + 1);
        }
        for (int i = 0; i < 31; i++) {
            checks.due("fits()", x.fits(), 100);
        }
        checks.due("the 512th", x.state(7), 240);
    }
}
