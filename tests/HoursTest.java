/** Promises 6 to 10 and 28: SETTINGS, mending, HOURS, TONS and the state. The numbers are reckoned by hand. */
public final class HoursTest {
    private static final String THREE = "drum room 200 loud 100;size a breaks 80 next 60;size b breaks 50 next 100;size c;"
        + "sieve b slips 20;liner 10;bin 50 draws 5;price 3,7;ore x hard 1 tons 40,20;ore y hard 5 tons 10,0,30";
    private static final String SMALL = "drum room 20 loud 10;size a breaks 100 next 0;size b;sieve b slips 50;liner 1;"
        + "bin 3 draws 2;price 1;ore x hard 1 tons 8,1";

    private static final Checks checks = new Checks();

    public static void main(String[] args) {
        set();
        mend();
        twoHours();
        anotherOre();
        standing();
        theSieve();
        theBin();
        theLiner();
        theLastHour();
        checks.finish();
    }

    private static void set() {
        checks.in("promise 6");
        RoarMill x = new RoarMill();
        checks.refused("set without a MILL", x, x.set(1, 1, 0), 1);
        checks.refused("set without a MILL, wrong", x, x.set(9, 9, 0), 1);
        x = Checks.milled(THREE);
        checks.refused("set(4, 0, 0)", x, x.set(4, 0, 0), 2);
        checks.refused("set(-1, 0, 0)", x, x.set(-1, 0, 0), 2);
        checks.refused("set(0, 4, 0)", x, x.set(0, 4, 0), 2);
        checks.refused("set(0, -1, 0)", x, x.set(0, -1, 0), 2);
        checks.refused("set(0, 0, 2)", x, x.set(0, 0, 2), 1);
        checks.refused("set(0, 0, -1)", x, x.set(0, 0, -1), 1);
        checks.refused("set(4, 4, 2): the least number", x, x.set(4, 4, 2), 1);
        checks.due("RATE stays", x.state(14), 1);
        checks.due("WATER stays", x.state(15), 1);
        checks.due("ORE stays", x.state(16), 0);
        checks.fine("set(3, 0, 1)", x, x.set(3, 0, 1));
        checks.due("RATE", x.state(14), 3);
        checks.due("WATER", x.state(15), 0);
        checks.due("ORE", x.state(16), 1);
        checks.fine("set(0, 3, 0)", x, x.set(0, 3, 0));
        checks.due("RATE", x.state(14), 0);
        checks.due("WATER", x.state(15), 3);
    }

    private static void mend() {
        checks.in("promise 7");
        RoarMill x = new RoarMill();
        checks.refused("mend without a MILL", x, x.mend(9, true), 1);
        x = Checks.milled(THREE);
        x.go(2);
        checks.refused("mend(4, true)", x, x.mend(4, true), 2);
        checks.refused("mend(-1, true)", x, x.mend(-1, true), 2);
        checks.due("the liner stays", x.state(4), 2);
        checks.fine("mend(3, false)", x, x.mend(3, false));
        checks.due("TEARS", x.state(5), 3);
        checks.due("the liner stays", x.state(4), 2);
        checks.fine("mend(0, true)", x, x.mend(0, true));
        checks.due("TEARS", x.state(5), 0);
        checks.due("the liner is new", x.state(4), 0);
        checks.due("NOW stays", x.state(7), 2);
    }

    private static void states(RoarMill x, int... want) {
        for (int i = 0; i < want.length; i++) {
            checks.due("state(" + i + ")", x.state(i), want[i]);
        }
    }

    private static void tons(RoarMill x, int what, int... want) {
        for (int i = 0; i < want.length; i++) {
            checks.due("tons(" + i + ", " + what + ")", x.tons(i, what), want[i]);
        }
    }

    private static void twoHours() {
        checks.in("promises 8 to 10, the first HOUR");
        RoarMill x = new RoarMill();
        checks.refused("go without a MILL", x, x.go(0), 1);
        x = Checks.milled(THREE);
        checks.refused("go(0)", x, x.go(0), 2);
        checks.refused("go(25)", x, x.go(25), 2);
        checks.refused("go(MAX)", x, x.go(Integer.MAX_VALUE), 2);
        checks.due("NOW", x.state(7), 0);
        checks.fine("go(1)", x, x.go(1), 1);
        tons(x, 0, 11, 19, 13);
        tons(x, 1, 4, 0, 0);
        tons(x, 2, 0, 8, 5);
        tons(x, 3, 0, 8, 5);
        states(x, 8, 0, 5, 0, 1, 0, 0, 1, 60, 80, 48, 70, 144, 60, 1, 1, 0);
        checks.in("promises 8 to 10, the second HOUR, torn twice");
        x.mend(2, false);
        checks.fine("go(1)", x, x.go(1), 1);
        tons(x, 0, 12, 32, 32);
        tons(x, 1, 3, 0, 0);
        tons(x, 2, 2, 13, 13);
        tons(x, 3, 2, 21, 18);
        states(x, 31, 0, 10, 0, 2, 2, 0, 2, 107, 87, 93, 47, 795, 120, 1, 1, 0);
        checks.due("tons(3, 0)", x.tons(3, 0), RoarMill.NONE);
        checks.due("tons(-1, 0)", x.tons(-1, 0), RoarMill.NONE);
        checks.due("tons(0, 4)", x.tons(0, 4), RoarMill.NONE);
        checks.due("tons(0, -1)", x.tons(0, -1), RoarMill.NONE);
        checks.due("state(-1)", x.state(-1), RoarMill.NONE);
        checks.due("state(17)", x.state(17), RoarMill.NONE);
    }

    /** RATE 2 of y, WATER 3: 20, 0, 60 HELD; 100 less 10, times 10 by 14: 64. 20 x 80 x 64 by 10,000: 10; 6 and 4. */
    private static void anotherOre() {
        checks.in("the other ORE");
        RoarMill x = Checks.milled(THREE);
        x.set(2, 3, 1);
        checks.fine("go(1)", x, x.go(1), 1);
        tons(x, 0, 5, 3, 32);
        tons(x, 1, 5, 0, 0);
        tons(x, 2, 0, 3, 32);
        states(x, 30, 0, 5, 0, 1, 0, 0, 1, 80, 64, 51, 60, 153, 80, 2, 3, 1);
    }

    /** 24 and 3 are above 20: 3 of a, 1 of b are dug out; 21, 2: 3 and 1; 18, 1: 19 isn't above. */
    private static void standing() {
        checks.in("it STANDS");
        RoarMill x = Checks.milled(SMALL);
        x.set(3, 0, 0);
        checks.fine("go(1)", x, x.go(1), 0);
        tons(x, 0, 21, 2);
        tons(x, 1, 0, 0);
        tons(x, 2, 0, 0);
        states(x, 0, 4, 0, 2, 1, 0, 1, 1, 27, 0, 0, 0, 0, 27);
        checks.fine("go(1)", x, x.go(1), 0);
        tons(x, 0, 18, 1);
        states(x, 0, 8, 0, 4, 2, 0, 1, 2, 23, 0, 0, 0, 0, 27);
        checks.fine("go(1): nothing comes, it goes again", x, x.go(1), 1);
        checks.due("STANDS", x.state(6), 0);
        checks.due("FULL", x.state(8), 19);
        checks.due("TONS that came", x.state(13), 27);
        checks.due("led(0)", x.led(0), 0);
        checks.due("led(1)", x.led(1), 1);
        checks.noneLed(x, 2);
        checks.noneLed(x, -1);
        checks.noneLed(x, Integer.MIN_VALUE);
        checks.fine("go(2): too full again", x, x.go(2), 0);
        checks.due("led(2)", x.led(2), 3);
        checks.due("led(3)", x.led(3), 4);
        checks.due("what goes BACK was HELD", x.tons(0, 1), 0);
        checks.in("full to the brim");
        x = Checks.milled(SMALL.replace("tons 8,1", "tons 10,10"));
        checks.fine("go(1): 20 of 20 isn't above", x, x.go(1), 1);
        checks.due("ROAR", x.state(11), 0);
        checks.due("EFFECT", x.state(9), 50);
        checks.noneLed(x, 0);
        checks.in("what is dug out is no more than there is");
        x = Checks.milled(SMALL.replace("tons 8,1", "tons 0,21"));
        checks.fine("go(1)", x, x.go(1), 0);
        checks.due("SPILT: none of a", x.state(1), 3);
        checks.due("a", x.tons(0, 0), 0);
    }

    /** With slips 50 and 3 TEARS all that is out passes, not more. */
    private static void theSieve() {
        checks.in("the sieve");
        String still = SMALL.replace("breaks 100 next 0", "breaks 0 next 0").replace("tons 8,1", "tons 15");
        int[] passed = {0, 1, 3, 3};
        for (int tears = 0; tears < 4; tears++) {
            RoarMill x = Checks.milled(still);
            x.set(1, 0, 0);
            x.mend(tears, false);
            x.go(1);
            tons(x, 0, 12, 0);
            tons(x, 1, 3 - passed[tears], 0);
            tons(x, 2, passed[tears], 0);
        }
        RoarMill x = Checks.milled(still.replace("sieve b", "sieve a"));
        x.set(1, 0, 0);
        x.go(1);
        tons(x, 2, 3, 0);
        tons(x, 1, 0, 0);
    }

    /** The last SIZE never breaks. Of 20 of b half are out by WATER 3: the bin keeps 3 of 10, 7 are SPILT, 2 are DRAWN. */
    private static void theBin() {
        checks.in("the bin");
        RoarMill x = Checks.milled(SMALL.replace("size b", "size b breaks 100 next 100").replace("tons 8,1", "tons 0,20"));
        x.set(1, 3, 0);
        x.go(1);
        tons(x, 0, 0, 10);
        tons(x, 2, 0, 10);
        states(x, 1, 7, 2, 0);
        x.set(0, 0, 0);
        x.go(1);
        states(x, 1, 7, 4, 0);
        tons(x, 0, 0, 8);
        x.go(2);
        tons(x, 0, 0, 6);
        states(x, 0, 7, 7, 1);
    }

    /** Of LIFE 5 at least 2 are left; EFFECT at 60 of 120 and hard 1. */
    private static void theLiner() {
        checks.in("the liner");
        int[] effects = {100, 80, 60, 40, 40, 40};
        for (int age = 0; age < effects.length; age++) {
            RoarMill x = Checks.milled("drum room 120 loud 10;size a;size b;sieve a slips 0;liner 5;bin 3 draws 0;price 1;"
                + "ore x hard 1 tons 50,10");
            x.set(0, 0, 0);
            x.go(age);
            x.set(1, 0, 0);
            x.go(1);
            checks.due("FULL", x.state(8), 60);
            checks.due("EFFECT at " + age, x.state(9), effects[age]);
            checks.due("HOURS of the liner", x.state(4), age + 1);
        }
    }

    private static void theLastHour() {
        checks.in("NOW up to 240");
        RoarMill x = Checks.milled(SMALL);
        for (int i = 0; i < 9; i++) {
            x.go(24);
        }
        x.go(23);
        checks.due("NOW", x.state(7), 239);
        checks.refused("go(2)", x, x.go(2), 3);
        checks.due("NOW", x.state(7), 239);
        checks.due("go(1) is heard", x.go(1) >= 0, true);
        checks.due("NOW", x.state(7), 240);
        checks.refused("go(1)", x, x.go(1), 3);
        checks.refused("go(25)", x, x.go(25), 2);
        x = Checks.milled(SMALL.replace("tons 8,1", "tons 50,50"));
        int ran = 0;
        for (int i = 0; i < 10; i++) {
            ran += x.go(24);
        }
        checks.due("the last HOUR in which it stood is told", x.led(239 - ran) > 200, true);
        checks.noneLed(x, 240 - ran);
    }
}
