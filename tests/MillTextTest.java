/** Promises 1 to 5 and 29: THE TAPE, texts, FAULTS and their places. */
public final class MillTextTest {
    private static final String SIZES = "size a breaks 80 next 60;size b breaks 50 next 100;size c";
    private static final String GOOD = "drum room 200 loud 100;" + SIZES
        + ";sieve b slips 20;liner 10;bin 50 draws 5;price 3,7;ore x hard 1 tons 40,20;ore y hard 5 tons 10,0,30";

    private static final Checks checks = new Checks();

    public static void main(String[] args) {
        aNewObject();
        theTape();
        aMill();
        aMillThatIsRefused();
        forms();
        names();
        bounds();
        many();
        lacks();
        checks.finish();
    }

    private static void aNewObject() {
        checks.in("promise 1");
        RoarMill x = new RoarMill();
        for (int i = 0; i < 12; i++) {
            checks.due("size(" + i + ")", x.size(i), 0);
        }
        checks.due("size(-1)", x.size(-1), RoarMill.NONE);
        checks.due("size(12)", x.size(12), RoarMill.NONE);
        for (int i = 0; i < 17; i++) {
            checks.due("state(" + i + ")", x.state(i), 0);
        }
        checks.due("fault()", x.fault(), 0);
        checks.due("where()", x.where(), RoarMill.NONE);
        checks.due("trouble()", x.trouble(), 0);
        checks.due("rate(0)", x.rate(0), RoarMill.NONE);
        checks.due("forget()", x.forget(), 0);
        checks.due("clear()", x.clear(), 0);
        checks.noneLed(x, 0);
    }

    private static void theTape() {
        checks.in("promise 2");
        RoarMill x = new RoarMill();
        checks.refused("go(1)", x, x.go(1), 1);
        for (int i = 1; i <= 35; i++) {
            checks.due("feed " + i, x.feed(0, -1, 1, 2, 3), 20 * i);
        }
        checks.due("feed above 700", x.feed(1, 2, 3, 4, 5), RoarMill.NONE);
        checks.due("no number is told of feed(): trouble()", x.trouble(), 1);
        checks.due("size(11)", x.size(11), 700);
        checks.refused("mill(701)", x, x.mill(701), 2);
        checks.due("size(11) stays", x.size(11), 700);
        checks.refused("mill(700)", x, x.mill(700), 4);
        checks.due("size(11) is 0 then", x.size(11), 0);
        checks.due("the highest byte first", Checks.feed(x, "size a;size b"), 20);
        checks.refused("mill(13)", x, x.mill(13), 4);
        checks.due("fault()", x.fault(), 6);
    }

    private static void aMill() {
        checks.in("promise 3");
        RoarMill x = new RoarMill();
        checks.fine("mill", x, Checks.mill(x, GOOD), 3);
        int[] sizes = {3, 2, 200, 100, 1, 20, 10, 50, 5, 2, 0, 0};
        for (int i = 0; i < sizes.length; i++) {
            checks.due("size(" + i + ")", x.size(i), sizes[i]);
        }
        checks.due("RATE", x.state(14), 1);
        checks.due("WATER", x.state(15), 1);
        checks.due("ORE", x.state(16), 0);
        use(x);
        checks.fine("mill again, two SIZES", x, Checks.mill(x, GOOD.replace(";size c", "").replace(",0,30", "")), 2);
        for (int i = 0; i < 14; i++) {
            checks.due("state(" + i + ") anew", x.state(i), 0);
        }
        for (int i = 0; i < 8; i++) {
            checks.due("tons(" + i / 4 + ", " + i % 4 + ") anew", x.tons(i / 4, i % 4), 0);
        }
        checks.due("tons(2, 0)", x.tons(2, 0), RoarMill.NONE);
        checks.due("RATE anew", x.state(14), 1);
        checks.due("WATER anew", x.state(15), 1);
        checks.due("ORE anew", x.state(16), 0);
        checks.due("PROGRAM anew", x.guess(0, 0, 0, 0, 0), 70);
        checks.due("no PLAN", x.rate(0), RoarMill.NONE);
        checks.due("nothing seen", x.size(10), 0);
        checks.due("no TRY", x.clear(), 0);
        checks.noneLed(x, 0);
    }

    private static void use(RoarMill x) {
        checks.fine("plan(1)", x, x.plan(1) >= 0);
        checks.fine("set", x, x.set(3, 2, 1));
        checks.fine("mend", x, x.mend(3, false));
        x.go(24);
        checks.due("it stood", x.led(0) >= 0, true);
        checks.fine("program", x, x.program(0, 3, 3, 1));
        checks.fine("seen", x, x.seen(0, 0, 1, 1), 1);
        checks.fine("number", x, x.number(true, 4), 1);
    }

    private static void aMillThatIsRefused() {
        checks.in("promises 3 to 5");
        RoarMill x = Checks.milled(GOOD);
        use(x);
        int now = x.state(7);
        int planned = x.rate(0);
        checks.refused("mill(-1)", x, x.mill(-1), 2);
        checks.refused("mill(1) of nothing", x, x.mill(1), 2);
        checks.due("fault() stays", x.fault(), 0);
        checks.due("where()", x.where(), RoarMill.NONE);
        checks.refused("mill of a FAULT", x, Checks.mill(x, "size a;liner 0"), 4);
        checks.due("fault()", x.fault(), 4);
        checks.due("where()", x.where(), 13);
        checks.due("asking changes nothing: where()", x.where(), 13);
        checks.due("state(7) stays", x.state(7), now);
        checks.due("where() behind state()", x.where(), 13);
        checks.due("size(0) stays", x.size(0), 3);
        checks.due("size(6) stays", x.size(6), 10);
        checks.due("RATE stays", x.state(14), 3);
        checks.due("size(10) stays", x.size(10), 1);
        checks.due("rate(0) stays", x.rate(0), planned);
        checks.due("led(0) stays", x.led(0) >= 0, true);
        checks.refused("mill(1)", x, x.mill(1), 2);
        checks.due("fault() of the one ahead", x.fault(), 4);
        checks.due("where() of none", x.where(), RoarMill.NONE);
        checks.due("clear() stays", x.clear(), 1);
        checks.fine("mill", x, Checks.mill(x, GOOD), 3);
        checks.due("fault()", x.fault(), 0);
        checks.due("where()", x.where(), RoarMill.NONE);
    }

    private static void faulty(String text, int fault, int place) {
        RoarMill x = new RoarMill();
        checks.in("'" + text + "'");
        checks.refused("mill", x, Checks.mill(x, text), 4);
        checks.due("fault()", x.fault(), fault);
        checks.due("where()", x.where(), place);
        checks.due("size(0)", x.size(0), 0);
    }

    private static void sound(String text, int sizes) {
        RoarMill x = new RoarMill();
        checks.in("'" + text + "'");
        checks.fine("mill", x, Checks.mill(x, text), sizes);
        checks.due("fault()", x.fault(), 0);
    }

    private static void forms() {
        sound(GOOD, 3);
        sound("  " + GOOD.replace(";", " ; ").replace(",", " , ") + "  ", 3);
        sound(GOOD.replace(" 200 loud 100", "200loud100").replace("hard 1 tons 40", "hard1tons40"), 3);
        sound(GOOD.replace("liner 10", "liner 010"), 3);
        faulty("", 1, 0);
        faulty("   ", 1, 3);
        faulty(";", 1, 0);
        faulty("drum", 1, 4);
        faulty("drum  ", 1, 6);
        faulty("drum room 999 loud 200;", 1, 23);
        faulty("drum room 1000 loud 9", 1, 10);
        faulty("drumroom 20 loud 10", 1, 0);
        faulty("drum loud 20", 1, 5);
        faulty("drum room 20 loud 10 drum", 1, 21);
        faulty("sizes a", 1, 0);
        faulty("brum room 20 loud 10", 1, 0);
        faulty("drum boom 20 loud 10", 1, 5);
        faulty("size abcdefghi", 1, 5);
        faulty("size abcdefgh", 6, 13);
        faulty("size A", 1, 5);
        faulty("size " + (char) 225, 1, 5);
        faulty("size a\n", 1, 6);
        faulty("size a" + (char) 0, 1, 6);
        faulty("size a1", 1, 6);
        faulty("size a b", 1, 7);
        faulty("size 1", 1, 5);
        faulty("size a breaks 100", 1, 17);
        faulty("size a next 100", 1, 7);
        faulty("size a breaks 1 next", 1, 20);
        faulty("size a;;size b", 1, 7);
        faulty("size a,size b", 1, 6);
        faulty("price 1,,2", 1, 8);
        faulty("price 1 2", 1, 8);
        faulty("price 1,", 1, 8);
        faulty("price 1,2,3,4,5,6,", 1, 18);
        faulty("price", 1, 5);
        faulty("size a;ore x hard 1 tons", 1, 24);
        faulty("size a;ore x hard 1 tons ;", 1, 25);
        faulty("size a;ore x tons 1", 1, 13);
        faulty("size a;sieve a", 1, 14);
        faulty("bin 5;", 1, 5);
        faulty("liner", 1, 5);
        faulty("liner 5 5", 1, 8);
    }

    private static void names() {
        for (String word : new String[] {"drum", "sieve", "liner", "bin", "price", "size", "ore"}) {
            faulty("size " + word, 1, 5);
            faulty("ore " + word, 1, 4);
            faulty("sieve " + word, 1, 6);
        }
        for (String word : new String[] {"room", "loud", "slips", "draws", "breaks", "next", "hard", "tons"}) {
            sound(GOOD.replace("size c", "size " + word).replace("sieve b", "sieve " + word), 3);
        }
        faulty("sieve a slips 5", 2, 6);
        faulty("size a;sieve b slips 51", 2, 13);
        faulty("size a;ore x hard 1 tons 1;sieve x slips 1", 2, 33);
        faulty("size a;sieve b slips 1;size b", 2, 13);
        faulty("size a;size a", 3, 12);
        faulty("size a;ore a", 3, 11);
        faulty("size a;ore x hard 1 tons 1;size x", 3, 32);
        faulty("size a;ore x hard 1 tons 1;ore x", 3, 31);
        faulty("size ab;size a;size ba;size ab", 3, 28);
        faulty("drum room 20 loud 10;drum", 3, 21);
        faulty("size a;sieve a slips 0;sieve", 3, 23);
        faulty("liner 1; liner 0", 3, 9);
        faulty("bin 1 draws 0;bin", 3, 14);
        faulty("price 0;price", 3, 8);
    }

    private static void bounds() {
        faulty("drum room 19 loud 300", 4, 10);
        faulty("drum room 20 loud 9", 4, 18);
        faulty("drum room 20 loud 201", 4, 18);
        faulty("drum room 20 loud 10", 6, 20);
        faulty("drum room 999 loud 200", 6, 22);
        faulty("size a;sieve a slips 51", 4, 21);
        faulty("size a;sieve a slips 50", 6, 23);
        faulty("liner 0", 4, 6);
        faulty("liner 201", 4, 6);
        faulty("liner 200", 6, 9);
        faulty("bin 0 draws 1", 4, 4);
        faulty("bin 999 draws 201", 4, 14);
        faulty("bin 999 draws 200", 6, 17);
        faulty("price 100", 4, 6);
        faulty("price 99,100", 4, 9);
        faulty("price 99", 6, 8);
        faulty("size a breaks 101 next 0", 4, 14);
        faulty("size a breaks 100 next 101", 4, 23);
        faulty("size a breaks 100 next 100", 6, 26);
        faulty("size a;ore x hard 0 tons 1", 4, 18);
        faulty("size a;ore x hard 10 tons 1", 4, 18);
        faulty("size a;ore x hard 9 tons 51", 4, 25);
        faulty("size a;ore x hard 9 tons 50", 6, 27);
    }

    private static void many() {
        faulty("size a;size b;size c;size d;size e; size f", 5, 36);
        faulty("size a;size b;size c;size d;size e;size", 5, 35);
        faulty("size a;size b;size c;size d;size e", 6, 34);
        String ores = "size a;ore w hard 1 tons 1;ore x hard 1 tons 1;ore y hard 1 tons 1;ore z hard 1 tons 1";
        faulty(ores, 6, ores.length());
        faulty(ores + ";ore", 5, ores.length() + 1);
        faulty("price 1,2,3,4,5,6", 6, 17);
        faulty("price 1,2,3,4,5,6,7", 5, 18);
        faulty("price 1,2,3,4,5,6,100", 4, 18);
        faulty("ore x hard 1 tons 0", 5, 18);
        faulty("ore x hard 1 tons 51", 4, 18);
        faulty("size a;ore x hard 1 tons 1,2;size b", 5, 27);
        faulty("size a;size b;ore x hard 1 tons 1,2", 6, 35);
        faulty("size a;size b;size c;size d;size e;ore x hard 1 tons 1,2,3,4,5,6", 5, 63);
    }

    private static void lacks() {
        String[] lines = GOOD.split(";");
        for (String line : lines) {
            boolean needed = !line.startsWith("size") && !line.startsWith("ore");
            String left = (";" + GOOD).replace(";" + line, "").substring(1);
            if (needed) {
                faulty(left, 6, left.length());
            }
        }
        String oneOre = GOOD.substring(0, GOOD.indexOf(";ore y"));
        sound(oneOre, 3);
        String noOre = GOOD.substring(0, GOOD.indexOf(";ore x"));
        faulty(noOre, 6, noOre.length());
        faulty(noOre + "  ", 6, noOre.length() + 2);
        String oneSize = "size a;drum room 20 loud 10;sieve a slips 0;liner 1;bin 1 draws 0;price 0;ore x hard 1 tons 1";
        faulty(oneSize, 6, oneSize.length());
        sound(oneSize + ";size b", 2);
    }
}
