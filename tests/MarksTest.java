/** Promises 27 and 30: MARKS, and TROUBLE. The numbers are reckoned by hand. */
public final class MarksTest {
    private static final String TWO = "drum room 100 loud 80;size a breaks 50 next 100;size b;sieve b slips 10;liner 10;"
        + "bin 50 draws 5;price 2,3;ore x hard 1 tons 20;ore y hard 1 tons 0,40";
    private static final String THREE = "drum room 200 loud 100;size a breaks 80 next 60;size b breaks 50 next 30;size c;"
        + "sieve c slips 20;liner 10;bin 50 draws 5;price 3,7;ore x hard 1 tons 40,20";

    private static final Checks checks = new Checks();

    public static void main(String[] args) {
        refusals();
        twoSizes();
        threeSizes();
        standing();
        trouble();
        checks.finish();
    }

    private static void refusals() {
        checks.in("promise 27, refused");
        RoarMill x = new RoarMill();
        checks.refused("marks without a MILL", x, x.marks(9, 0, 0, 0, 0, 0), 1);
        x = Checks.milled(TWO);
        checks.refused("SIZE -1", x, x.marks(0, 0, 0, -1, 0, 0), 1);
        checks.refused("SIZE 2", x, x.marks(9, 0, 0, 2, 0, 0), 1);
        checks.refused("HOUR -1", x, x.marks(0, 0, 0, 0, -1, 0), 1);
        checks.refused("HOUR 12", x, x.marks(0, 0, 0, 0, 12, 0), 1);
        checks.refused("by -1", x, x.marks(0, 0, 0, 0, 0, -1), 1);
        checks.refused("by 12", x, x.marks(0, 9, 0, 0, 0, 12), 1);
        checks.refused("TEARS 4", x, x.marks(4, 0, 0, 0, 0, 0), 2);
        checks.refused("TEARS -1", x, x.marks(-1, 0, 0, 0, 0, 0), 2);
        checks.refused("liner 5", x, x.marks(0, 5, 0, 0, 0, 0), 2);
        checks.refused("liner -1", x, x.marks(0, -1, 0, 0, 0, 0), 2);
        checks.refused("fill 5", x, x.marks(0, 0, 5, 0, 0, 0), 2);
        checks.refused("fill -1", x, x.marks(0, 0, -1, 0, 0, 0), 2);
        checks.refused("the other HOUR ahead", x, x.marks(0, 0, 0, 0, 11, 10), 2);
    }

    /**
     * HOUR 0, EFFECT 70: 350,000 of a break, of 650,000 195,000 go BACK, of 350,000 of b 105,000 pass. HOUR 1, EFFECT 79:
     * of 650,000 256,750 break, of 393,250 117,975 go BACK, of 501,750 150,525 pass.
     */
    private static void twoSizes() {
        checks.in("promise 27, two SIZES");
        RoarMill x = Checks.milled(TWO);
        checks.fine("by HOUR 0", x, x.marks(0, 0, 0, 0, 0, 0), 105000);
        checks.fine("by HOUR 1", x, x.marks(0, 0, 0, 0, 0, 1), 255525);
        checks.fine("of b", x, x.marks(0, 0, 0, 1, 0, 0), 300000);
        checks.fine("of b by HOUR 1", x, x.marks(0, 0, 0, 1, 0, 1), 510000);
        // a sieve torn twice lets 20 hundredths of 195,000 pass
        checks.fine("through tears", x, x.marks(2, 0, 0, 0, 0, 0), 105000 + 39000);
        RoarMill torn = Checks.milled(TWO.replace("slips 10", "slips 50"));
        checks.fine("all that is out passes, not more", torn, torn.marks(3, 0, 0, 0, 0, 0), 105000 + 195000);
        // from HOUR 1, EFFECT 79: 395,000 break, 30 hundredths of them pass
        checks.fine("from HOUR 1", x, x.marks(0, 0, 0, 0, 1, 1), 118500);
        x.program(1, 1, 3, 0);
        checks.fine("WATER by THE PROGRAM", x, x.marks(0, 0, 0, 0, 1, 1), 197500);
        checks.fine("HOUR 0 as before", x, x.marks(0, 0, 0, 0, 0, 0), 105000);
        checks.due("nothing is HELD by it", x.tons(0, 0), 0);
        checks.fine("HOUR 11", x, x.marks(3, 4, 4, 1, 11, 11) >= 0);
    }

    /**
     * 60 of 200, EFFECT 80: of 1,000,000 of a 640,000 break: 384,000 to b, 256,000 to c; 30 hundredths of c pass, of a and
     * b go BACK but for TEARS times 20 hundredths. Of b 400,000 break, all but 120,000 without a SIZE behind: to c all.
     */
    private static void threeSizes() {
        checks.in("promise 27, three SIZES");
        RoarMill x = Checks.milled(THREE);
        checks.fine("of a", x, x.marks(0, 0, 0, 0, 0, 0), 76800);
        checks.fine("of a, torn once", x, x.marks(1, 0, 0, 0, 0, 0), 76800 + 21600 + 23040);
        checks.fine("of b", x, x.marks(0, 0, 0, 1, 0, 0), 120000);
        checks.fine("of c", x, x.marks(0, 0, 0, 2, 0, 0), 300000);
    }

    /** HOUR 1 brings 120 of y: it STANDS until what was dug out is enough; the MARKS stay, and none is dug out. */
    private static void standing() {
        checks.in("promise 27, it STANDS");
        RoarMill x = Checks.milled(TWO);
        x.program(1, 3, 1, 1);
        x.program(2, 0, 1, 0);
        x.program(3, 0, 1, 0);
        x.program(4, 0, 1, 0);
        checks.due("HOUR 1: POWER", x.guess(0, 0, 0, 1, 1), 0);
        checks.fine("by HOUR 1", x, x.marks(0, 0, 0, 0, 0, 1), 105000);
        checks.fine("of b by HOUR 1", x, x.marks(0, 0, 0, 1, 0, 1), 300000);
        checks.fine("from HOUR 1 by HOUR 1", x, x.marks(0, 0, 0, 1, 1, 1), 0);
        int goes = 2;
        while (goes < 5 && x.guess(0, 0, 0, goes, 1) == 0) {
            goes++;
        }
        checks.due("it goes again", goes < 5, true);
        // in the HOUR that goes 700,000 of b are there still
        checks.fine("of b by the HOUR that goes", x, x.marks(0, 0, 0, 1, 0, goes), 300000 + 210000);
        checks.fine("of b from HOUR 1 by it", x, x.marks(0, 0, 0, 1, 1, goes), 300000);
    }

    private static void trouble() {
        checks.in("promise 30");
        RoarMill x = Checks.milled(TWO);
        checks.due("trouble()", x.trouble(), 0);
        x.marks(0, 0, 0, 2, 0, 0);
        checks.due("1", x.trouble(), 1);
        x.feed(0, 0, 0, 0, 0);
        x.fault();
        x.where();
        x.tons(9, 9);
        x.state(99);
        x.forget();
        x.rate(9);
        x.clear();
        x.size(99);
        checks.noneLed(x, 9);
        checks.due("calls of which no number is told leave it", x.trouble(), 1);
        checks.due("asking leaves it", x.trouble(), 1);
        x.go(0);
        checks.due("2", x.trouble(), 2);
        x.chance();
        checks.due("5", x.trouble(), 5);
        x.seen(0, 0, 999, 0);
        checks.due("0", x.trouble(), 0);
        x.certain(0);
        checks.due("6", x.trouble(), 6);
        x.mill(1);
        checks.due("4", x.trouble(), 4);
        x.mend(0, false);
        checks.due("0", x.trouble(), 0);
    }
}
