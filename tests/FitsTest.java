/** Promises 11 to 18: THE PROGRAM, what was seen, FITS, GUESSES and what was SWAPPED. */
public final class FitsTest {
    private static final String TWO = "drum room 100 loud 80;size a breaks 50 next 100;size b;sieve b slips 10;liner 10;"
        + "bin 50 draws 5;price 2,3;ore x hard 1 tons 20;ore y hard 9 tons 0,40";

    private static final Checks checks = new Checks();

    public static void main(String[] args) {
        program();
        guess();
        guessOfStarts();
        seen();
        forget();
        fits();
        fitAt();
        certain();
        swapped();
        keptNothing();
        checks.finish();
    }

    private static void program() {
        checks.in("promise 11");
        RoarMill x = new RoarMill();
        checks.refused("program without a MILL", x, x.program(0, 9, 1, 0), 1);
        x = Checks.milled(TWO);
        checks.refused("program(-1, ..)", x, x.program(-1, 1, 1, 0), 1);
        checks.refused("program(12, ..)", x, x.program(12, 9, 1, 0), 1);
        checks.refused("ORE 2", x, x.program(0, 1, 9, 2), 1);
        checks.refused("ORE -1", x, x.program(0, 1, 1, -1), 1);
        checks.refused("RATE 4", x, x.program(0, 4, 1, 0), 2);
        checks.refused("RATE -1", x, x.program(0, -1, 1, 0), 2);
        checks.refused("WATER 4", x, x.program(0, 1, 4, 0), 2);
        checks.refused("WATER -1", x, x.program(0, 1, -1, 0), 2);
        checks.due("as at first", x.guess(0, 0, 0, 0, 0), 64);
        checks.fine("program(0, 0, 3, 1)", x, x.program(0, 0, 3, 1));
        checks.due("nothing comes: ROAR", x.guess(0, 0, 0, 0, 0), 80);
        checks.due("then 20: ROAR", x.guess(0, 0, 0, 1, 0), 64);
        checks.fine("program(1, 3, 0, 1)", x, x.program(1, 3, 0, 1));
        checks.due("120 of 100: ROAR", x.guess(0, 0, 0, 1, 0), 0);
        checks.due("120 of 100: POWER", x.guess(0, 0, 0, 1, 1), 0);
        checks.due("120 of 100: passed", x.guess(0, 0, 0, 1, 3), 0);
        checks.fine("program(11, 0, 0, 0)", x, x.program(11, 0, 0, 0));
        checks.due("SETTINGS stay", x.state(14), 1);
    }

    private static void guess() {
        checks.in("promise 17");
        RoarMill x = new RoarMill();
        checks.refused("guess without a MILL", x, x.guess(9, 0, 0, 0, 0), 1);
        x = Checks.milled(TWO);
        checks.refused("HOUR -1", x, x.guess(9, 0, 0, -1, 0), 1);
        checks.refused("HOUR 12", x, x.guess(0, 0, 0, 12, 0), 1);
        checks.refused("what -1", x, x.guess(0, 0, 0, 0, -1), 1);
        checks.refused("what 4", x, x.guess(0, 0, 0, 0, 4), 1);
        checks.refused("TEARS 4", x, x.guess(4, 0, 0, 0, 0), 2);
        checks.refused("TEARS -1", x, x.guess(-1, 0, 0, 0, 0), 2);
        checks.refused("liner 5", x, x.guess(0, 5, 0, 0, 0), 2);
        checks.refused("liner -1", x, x.guess(0, -1, 0, 0, 0), 2);
        checks.refused("fill 5", x, x.guess(0, 0, 5, 0, 0), 2);
        checks.refused("fill -1", x, x.guess(0, 0, -1, 0, 0), 2);
        checks.fine("ROAR", x, x.guess(0, 0, 0, 0, 0), 64);
        checks.fine("POWER", x, x.guess(0, 0, 0, 1, 1), 30);
        checks.fine("a", x, x.guess(0, 0, 0, 1, 2), 0);
        checks.fine("b", x, x.guess(0, 0, 0, 1, 3), 5);
    }

    /** Of 20 and a fill of 4 times 20 all stands to the brim: EFFECT 50 by the liner; 10 quarters: 0, 2, 5, 7, 10. */
    private static void guessOfStarts() {
        checks.in("STARTS");
        RoarMill x = Checks.milled(TWO);
        int[] power = {50, 40, 25, 25, 25};
        for (int liner = 0; liner < 5; liner++) {
            checks.due("POWER by liner " + liner, x.guess(0, liner, 4, 0, 1), power[liner]);
        }
        int[] roar = {64, 48, 32, 16, 0};
        for (int fill = 0; fill < 5; fill++) {
            checks.due("ROAR by fill " + fill, x.guess(0, 0, fill, 0, 0), roar[fill]);
        }
        // 100 HELD, EFFECT 50: 25 broken, of 75 of a 22 are out, 2 by a tear
        for (int tears = 0; tears < 4; tears++) {
            checks.due("a by TEARS " + tears, x.guess(tears, 0, 4, 0, 2), 22 * tears / 10);
            checks.due("b by TEARS " + tears, x.guess(tears, 0, 4, 0, 3), 7);
        }
    }

    private static void seen() {
        checks.in("promise 12");
        RoarMill x = new RoarMill();
        checks.refused("of a SIZE without a MILL", x, x.seen(0, 2, 1, 0), 1);
        x = Checks.milled(TWO);
        checks.refused("HOUR -1", x, x.seen(-1, 0, -1, 0), 1);
        checks.refused("HOUR 12", x, x.seen(12, 0, 1, 0), 1);
        checks.refused("what -1", x, x.seen(0, -1, 1, 0), 1);
        checks.refused("what 4", x, x.seen(0, 4, 1, -1), 1);
        checks.refused("value -1", x, x.seen(0, 0, -1, 0), 2);
        checks.refused("value 1000000", x, x.seen(0, 0, 1000000, 0), 2);
        checks.refused("off -1", x, x.seen(0, 0, 1, -1), 2);
        checks.refused("off 1000", x, x.seen(0, 0, 1, 1000), 2);
        checks.due("size(10)", x.size(10), 0);
        for (int i = 1; i <= 24; i++) {
            checks.fine("seen " + i, x, x.seen(11, 3, i == 1 ? 999999 : 0, i == 1 ? 999 : 0), i);
        }
        checks.refused("a 25th", x, x.seen(11, 3, 0, 0), 3);
        checks.refused("a 25th that is wrong", x, x.seen(11, 3, -1, 0), 2);
        checks.due("size(10)", x.size(10), 24);
    }

    private static void forget() {
        checks.in("promise 13");
        RoarMill x = Checks.milled(TWO);
        checks.due("forget()", x.forget(), 0);
        x.seen(0, 0, 999, 0);
        x.seen(0, 0, 64, 0);
        checks.due("fits()", x.fits(), 0);
        checks.refused("certain", x, x.certain(0), 6);
        checks.due("forget()", x.forget(), 2);
        checks.due("it can't be refused: trouble()", x.trouble(), 6);
        checks.due("size(10)", x.size(10), 0);
        checks.due("fits()", x.fits(), 100);
    }

    private static void fits() {
        checks.in("promise 14");
        RoarMill x = new RoarMill();
        checks.refused("fits without a MILL", x, x.fits(), 1);
        x = Checks.milled(TWO);
        checks.fine("nothing seen", x, x.fits(), 100);
        x.seen(0, 0, 48, 0);
        checks.fine("ROAR 48: fill 1", x, x.fits(), 20);
        x.forget();
        x.seen(0, 0, 48, 15);
        checks.fine("ROAR 33 .. 63", x, x.fits(), 20);
        x.forget();
        x.seen(0, 0, 48, 16);
        checks.fine("ROAR 32 .. 64: fill 0 to 2", x, x.fits(), 60);
        x.seen(0, 0, 10, 22);
        checks.fine("and 0 .. 32: fill 2", x, x.fits(), 20);
        x.program(0, 0, 1, 0);
        checks.fine("by another PROGRAM ROAR 32 is fill 3", x, x.fits(), 20);
        checks.due("fill", x.certain(2), 3);
    }

    private static void fitAt() {
        checks.in("promise 15");
        RoarMill x = new RoarMill();
        checks.refused("fitAt without a MILL", x, x.fitAt(0, 0), 1);
        x = Checks.milled(TWO);
        for (int i = 0; i < 100; i++) {
            checks.fine("fitAt(" + i + ", 0)", x, x.fitAt(i, 0), i / 25);
            checks.fine("fitAt(" + i + ", 1)", x, x.fitAt(i, 1), i / 5 % 5);
            checks.fine("fitAt(" + i + ", 2)", x, x.fitAt(i, 2), i % 5);
        }
        checks.refused("fitAt(100, 0)", x, x.fitAt(100, 0), 1);
        checks.refused("fitAt(-1, 0)", x, x.fitAt(-1, 0), 1);
        checks.refused("fitAt(0, 3)", x, x.fitAt(0, 3), 1);
        checks.refused("fitAt(0, -1)", x, x.fitAt(0, -1), 1);
        x.seen(0, 0, 48, 0);
        checks.fine("the first", x, x.fitAt(0, 2), 1);
        checks.fine("the last", x, x.fitAt(19, 0), 3);
        checks.refused("behind it", x, x.fitAt(20, 0), 1);
    }

    private static void certain() {
        checks.in("promise 16");
        RoarMill x = new RoarMill();
        checks.refused("certain without a MILL", x, x.certain(0), 1);
        x = Checks.milled(TWO);
        checks.fine("nothing seen", x, x.certain(0), -2);
        // 100 HELD: with a new liner 22 of a are out, with a worn one 26; by one tear 2 of either pass
        x.seen(0, 0, 0, 0);
        checks.fine("fill", x, x.certain(2), 4);
        checks.fine("TEARS", x, x.certain(0), -2);
        x.seen(0, 2, 2, 0);
        checks.fine("TEARS", x, x.certain(0), 1);
        checks.fine("liner", x, x.certain(1), -2);
        x.seen(0, 1, 50, 0);
        checks.fine("liner", x, x.certain(1), 0);
        checks.due("one alone: fits()", x.fits(), 1);
        checks.refused("one alone: swapped()", x, x.swapped(), 5);
        checks.refused("certain(3)", x, x.certain(3), 1);
        checks.refused("certain(-1)", x, x.certain(-1), 1);
        x.seen(0, 1, 51, 0);
        checks.refused("no FITS", x, x.certain(0), 6);
        checks.refused("no FITS, none such", x, x.certain(3), 1);
    }

    /** From an empty drum 2 and 5 pass of b in the first two HOURS. */
    private static void swapped() {
        checks.in("promise 18");
        RoarMill x = new RoarMill();
        checks.refused("swapped without a MILL", x, x.swapped(), 1);
        x = Checks.milled(TWO);
        checks.refused("there are FITS", x, x.swapped(), 5);
        x.seen(0, 0, 64, 0);
        x.seen(1, 0, 50, 0);
        x.seen(0, 3, 5, 0);
        x.seen(1, 3, 2, 0);
        checks.due("fits()", x.fits(), 0);
        checks.fine("swapped()", x, x.swapped(), 1);
        checks.due("what was seen stays", x.fits(), 0);
        x.seen(1, 0, 51, 0);
        checks.fine("ROARS are not told one for the other", x, x.swapped(), -2);
        x.forget();
        // a drum that is fed no more passes of b less and less from HOUR 3 on: 40 HELD of b by y in HOUR 3 alone
        for (int i = 0; i < 12; i++) {
            x.program(i, i == 3 ? 1 : 0, 3, 1);
        }
        x.seen(11, 0, 80, 0);
        x.seen(0, 0, 80, 0);
        x.seen(3, 3, 10, 0);
        x.seen(4, 3, 20, 0);
        checks.due("fits()", x.fits(), 0);
        checks.fine("swapped()", x, x.swapped(), 304);
        x.seen(4, 2, 0, 0);
        checks.fine("all seen of what passed goes along", x, x.swapped(), 304);
        x.forget();
        x.seen(0, 0, 999, 0);
        checks.fine("no samples", x, x.swapped(), -2);
        // nothing breaks: of 20 HELD in HOUR 1 10 of a are out, of which by 3 TEARS 3 pass
        Checks.mill(x, TWO.replace(" breaks 50 next 100", ""));
        x.program(0, 0, 3, 0);
        x.program(1, 1, 3, 0);
        x.seen(0, 0, 80, 0);
        x.seen(0, 2, 3, 0);
        x.seen(1, 2, 0, 0);
        checks.fine("samples of the first SIZE", x, x.swapped(), 1);
        // with slips 50 a single tear would let some of a pass: the first START alone agrees
        Checks.mill(x, TWO.replace("slips 10", "slips 50"));
        x.seen(0, 0, 64, 0);
        x.seen(1, 1, 30, 0);
        x.seen(0, 2, 0, 0);
        x.seen(0, 3, 5, 0);
        x.seen(1, 3, 2, 0);
        checks.fine("the first START alone", x, x.swapped(), 1);
    }

    /** FITS and GUESSES are asked for behind each change that may change them. */
    private static void keptNothing() {
        checks.in("changes between calls");
        RoarMill x = Checks.milled(TWO);
        x.seen(2, 0, 0, 999);
        checks.due("fits()", x.fits(), 100);
        checks.due("guess", x.guess(0, 0, 1, 0, 0), 48);
        x.program(0, 0, 0, 0);
        checks.due("guess", x.guess(0, 0, 1, 0, 0), 64);
        x.seen(0, 0, 64, 0);
        checks.due("fits()", x.fits(), 20);
        checks.due("fill", x.fitAt(0, 2), 1);
        Checks.mill(x, TWO.replace("loud 80", "loud 100"));
        checks.due("guess of another MILL", x.guess(0, 0, 1, 0, 0), 60);
        checks.due("fits()", x.fits(), 100);
        x.set(3, 3, 1);
        x.mend(3, false);
        x.go(3);
        checks.due("THE STATE is no matter to a GUESS", x.guess(0, 0, 1, 0, 0), 60);
    }
}
