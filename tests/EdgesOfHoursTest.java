/** Terms II and promises 6 to 10 and 28, sentence by sentence: each that names an edge has a test of its own. */
public final class EdgesOfHoursTest {
    private static final Checks checks = new Checks();

    public static void main(String[] args) {
        beginning();
        settings();
        oreComes();
        backIsHeld();
        aboveRoom();
        dugOut();
        leftOut();
        standsNoMore();
        effectByFull();
        effectByLiner();
        effectByHard();
        oneAfterTheOther();
        power();
        fromTheLastButOne();
        broken();
        next();
        neverBreaks();
        out();
        pass();
        bin();
        drawn();
        roar();
        cost();
        older();
        set();
        mend();
        go();
        goRefused();
        tons();
        state();
        led();
        checks.finish();
    }

    private static void held(RoarMill x, int... want) {
        row(x, 0, want);
    }

    private static void back(RoarMill x, int... want) {
        row(x, 1, want);
    }

    private static void passed(RoarMill x, int... want) {
        row(x, 2, want);
    }

    private static void row(RoarMill x, int what, int... want) {
        for (int i = 0; i < want.length; i++) {
            checks.due("tons(" + i + ", " + what + ")", x.tons(i, what), want[i]);
        }
    }

    /** One HOUR of a MILL that has none behind it. */
    private static RoarMill first(int rate, int water, String... lines) {
        RoarMill x = Texts.mill(lines);
        x.set(rate, water, 0);
        x.go(1);
        return x;
    }

    private static void beginning() {
        checks.says("Terms II", "NOW (HOURS since the beginning)");
        RoarMill x = Texts.mill();
        checks.due("NOW", x.state(7), 0);
        x.go(1);
        checks.due("NOW", x.state(7), 1);
        x.go(24);
        checks.due("NOW", x.state(7), 25);
        checks.says("Terms II", "TEARS of the sieve (0 .. 3)");
        checks.due("none at first", x.state(5), 0);
        checks.fine("mend(3, false)", x, x.mend(3, false));
        checks.refused("mend(4, false)", x, x.mend(4, false), 2);
        checks.due("TEARS", x.state(5), 3);
    }

    private static void settings() {
        checks.says("Terms II", "SETTINGS: RATE (0 .. 3), WATER (0 .. 3), an ORE");
        int[] came = {0, 10, 20, 30};
        int[] isOut = {20, 30, 40, 50};
        for (int i = 0; i < 4; i++) {
            checks.due("TONS that came by RATE " + i, first(i, 0).state(13), came[i]);
            checks.due("out of 100 by WATER " + i, first(2, i, "ore x hard 1 tons 50").tons(0, 2), isOut[i]);
        }
    }

    private static void oreComes() {
        checks.says("Terms II", "1. Unless it STANDS, RATE times the ORE's tons come and are HELD");
        RoarMill x = Texts.mill("drum room 100 loud 100", "ore x hard 1 tons 50,1");
        x.set(2, 0, 0);
        x.go(1);
        checks.due("102 of 100 came", x.state(13), 102);
        checks.due("STANDS", x.state(6), 1);
        // 100 less 11 and 2 less 1 are HELD: 90, it goes; but in that HOUR it stood at first, so nothing came
        x.go(1);
        checks.due("nothing comes to one that STANDS", x.state(13), 102);
        checks.due("FULL", x.state(8), 90);
        x.set(0, 0, 0);
        x.go(1);
        checks.due("RATE 0: nothing comes", x.state(13), 102);
        // of 89 and 1 17 and none are out, of 72 14
        checks.due("FULL", x.state(8), 73);
        x.set(1, 0, 0);
        x.go(1);
        checks.due("it didn't STAND: 51 come", x.state(13), 153);
    }

    private static void backIsHeld() {
        checks.says("Terms II", "2. What goes BACK is HELD");
        RoarMill x = Texts.mill("drum room 20 loud 100", "size a", "size b", "sieve b slips 0", "ore x hard 1 tons 20",
            "ore y hard 1 tons 0,1");
        x.set(1, 3, 0);
        x.go(1);
        held(x, 10, 0);
        back(x, 10, 0);
        x.set(0, 3, 0);
        checks.fine("10 and 10 of 20", x, x.go(1), 1);
        checks.due("FULL", x.state(8), 20);
        back(x, 10, 0);
        x.set(1, 3, 1);
        checks.fine("10 and 10 and 1 of 20", x, x.go(1), 0);
        checks.due("FULL", x.state(8), 21);
    }

    private static void aboveRoom() {
        checks.says("Terms II", "3. FULL: all that is HELD. If it is above room: it STANDS");
        RoarMill x = first(1, 1, "drum room 20 loud 100", "ore x hard 1 tons 10,10");
        checks.due("20 of 20", x.state(6), 0);
        checks.due("FULL", x.state(8), 20);
        x = first(1, 1, "drum room 20 loud 100", "ore x hard 1 tons 10,11");
        checks.due("21 of 20", x.state(6), 1);
        checks.due("FULL", x.state(8), 21);
        x = first(0, 1, "drum room 20 loud 100", "ore x hard 1 tons 10,11");
        checks.due("none of 20", x.state(6), 0);
        checks.due("FULL", x.state(8), 0);
    }

    private static void dugOut() {
        checks.says("Terms II", "of each SIZE a tenth of what is HELD and 1 more (no more than there is) is dug out (SPILT)");
        String[] sizes = {"drum room 20 loud 100", "size a", "size b", "size c", "size d", "size e", ""};
        sizes[6] = "ore x hard 1 tons 0,1,9,10,19";
        RoarMill x = first(1, 1, sizes);
        held(x, 0, 0, 8, 8, 17);
        checks.due("SPILT", x.state(1), 6);
        sizes[6] = "ore x hard 1 tons 2,20,29,30,50";
        x = first(1, 1, sizes);
        held(x, 1, 17, 26, 26, 44);
        checks.due("SPILT", x.state(1), 17);
        x.go(1);
        held(x, 0, 15, 23, 23, 39);
        checks.due("SPILT in all", x.state(1), 17 + 14);
    }

    /** In the first HOUR something breaks, goes BACK and passes; the second is too full. */
    private static void leftOut() {
        checks.says("Terms II", "nothing goes BACK, nothing passes, EFFECT and POWER are 0, steps 4 to 6 are left out");
        RoarMill x = Texts.mill("drum room 40 loud 100", "size a breaks 50 next 100", "size b", "sieve b slips 25", "bin 10 draws 3",
            "ore x hard 1 tons 20", "ore y hard 1 tons 0,50");
        x.mend(2, false);
        x.set(1, 3, 0);
        x.go(1);
        // EFFECT 100: 10 of 20 break; 5 of either are out, 2 of 5 pass by 50 hundredths
        held(x, 5, 5);
        back(x, 3, 0);
        passed(x, 2, 5);
        checks.due("EFFECT", x.state(9), 100);
        checks.due("POWER", x.state(10), 20);
        checks.due("the bin", x.state(0), 4);
        x.set(1, 3, 1);
        checks.fine("go(1)", x, x.go(1), 0);
        checks.due("FULL", x.state(8), 63);
        held(x, 7, 49);
        back(x, 0, 0);
        passed(x, 0, 0);
        checks.due("EFFECT", x.state(9), 0);
        checks.due("POWER", x.state(10), 0);
        checks.due("passed in all", x.tons(1, 3), 5);
        checks.due("it is drawn from all the same: the bin", x.state(0), 1);
        checks.due("DRAWN", x.state(2), 6);
        checks.due("SPILT", x.state(1), 7);
    }

    private static void standsNoMore() {
        checks.says("Terms II", "Else it doesn't stand any more");
        RoarMill x = Texts.mill("drum room 20 loud 100", "ore x hard 1 tons 23");
        checks.fine("23 of 20", x, x.go(1), 0);
        checks.due("HELD", x.tons(0, 0), 20);
        checks.fine("20 of 20", x, x.go(1), 1);
        checks.due("STANDS", x.state(6), 0);
        checks.fine("23 more", x, x.go(1), 0);
        checks.due("TONS that came", x.state(13), 46);
    }

    private static void effectByFull() {
        checks.says("Terms II", "4. EFFECT: 100 less how far 100 times FULL by room is from 50");
        int[][] cases = {{0, 1, 50}, {1, 1, 51}, {49, 1, 99}, {50, 1, 100}, {17, 3, 99}, {33, 3, 51}, {50, 2, 50}};
        for (int[] c : cases) {
            RoarMill x = first(c[1], 1, "drum room 100 loud 100", "ore x hard 1 tons " + c[0]);
            checks.due("EFFECT at " + c[0] * c[1] + " of 100", x.state(9), c[2]);
        }
        // by 30: 33 and a third, 66 and two thirds
        checks.due("EFFECT at 10 of 30", first(1, 1, "drum room 30 loud 100").state(9), 83);
        checks.due("EFFECT at 20 of 30", first(2, 1, "drum room 30 loud 100").state(9), 84);
    }

    private static RoarMill aged(int hours, String liner) {
        RoarMill x = Texts.mill(liner, "ore x hard 1 tons 50");
        x.set(0, 0, 0);
        for (int i = 0; i < hours; i += 20) {
            x.go(Math.min(20, hours - i));
        }
        x.set(1, 0, 0);
        x.go(1);
        return x;
    }

    private static void effectByLiner() {
        checks.says("Terms II", "that times (LIFE less HOURS of the liner, LIFE by 2 at least) by LIFE");
        int[][] cases = {{0, 1, 100}, {1, 1, 0}, {2, 1, 0}, {0, 2, 100}, {1, 2, 50}, {2, 2, 50}, {0, 5, 100}, {2, 5, 60}, {3, 5, 40},
            {4, 5, 40}, {9, 5, 40}, {0, 200, 100}, {1, 200, 99}, {99, 200, 50}, {100, 200, 50}, {101, 200, 50}, {200, 200, 50}};
        for (int[] c : cases) {
            checks.due("EFFECT at " + c[0] + " of LIFE " + c[1], aged(c[0], "liner " + c[1]).state(9), c[2]);
        }
        checks.due("it grows older than its LIFE", aged(9, "liner 5").state(4), 10);
    }

    private static void effectByHard() {
        checks.says("Terms II", "that times 10 by (9 and hard of the ORE)");
        int[] effects = {100, 90, 83, 76, 71, 66, 62, 58, 55};
        for (int hard = 1; hard <= 9; hard++) {
            checks.due("EFFECT by hard " + hard, first(1, 1, "ore x hard " + hard + " tons 50").state(9), effects[hard - 1]);
        }
        RoarMill x = Texts.mill("ore x hard 1 tons 50", "ore y hard 9 tons 50");
        x.set(1, 0, 1);
        x.go(1);
        checks.due("of the ORE that is set", x.state(9), 55);
        x.set(0, 0, 0);
        x.go(1);
        // 40 of 100: 90, LIFE 200 less 1: 89
        checks.due("of the ORE that is set, whatever is HELD", x.state(9), 89);
    }

    private static void oneAfterTheOther() {
        checks.says("Terms II", "(Each division downwards, one after the other.)");
        RoarMill x = Texts.mill("liner 2", "ore x hard 2 tons 49");
        x.set(0, 0, 0);
        x.go(1);
        x.set(1, 0, 0);
        x.go(1);
        // 99, half of it 49, times 10 by 11: 44; in one division it were 45
        checks.due("EFFECT", x.state(9), 44);
        checks.due("POWER", x.state(10), 21);
    }

    private static void power() {
        checks.says("Terms II", "POWER: FULL times EFFECT by 100");
        int[][] cases = {{0, 1, 0}, {1, 1, 0}, {49, 1, 48}, {50, 1, 50}, {17, 3, 50}, {50, 2, 50}};
        for (int[] c : cases) {
            checks.due("POWER of " + c[0] * c[1], first(c[1], 1, "ore x hard 1 tons " + c[0]).state(10), c[2]);
        }
    }

    private static void fromTheLastButOne() {
        checks.says("Terms II", "From the last SIZE but one to the first");
        RoarMill x = first(1, 0, "size a breaks 100 next 100", "size b breaks 100 next 100", "size c", "ore x hard 1 tons 50");
        // what has just broken doesn't break again: 10 of 50 are out
        held(x, 0, 40, 0);
        x = first(1, 0, "size a breaks 100 next 100", "size b breaks 100 next 100", "size c", "ore x hard 1 tons 30,20");
        held(x, 0, 24, 16);
        // four SIZES: what comes behind the next does not break again either
        x = first(1, 0, "size a breaks 100 next 0", "size b breaks 100 next 0", "size c breaks 100 next 0", "size d",
            "ore x hard 1 tons 50");
        held(x, 0, 0, 40, 0);
    }

    private static void broken() {
        checks.says("Terms II", "of what is HELD of it breaks times EFFECT by 10,000 is broken");
        // EFFECT 100 at 50 of 100
        int[][] cases = {{0, 0}, {1, 0}, {2, 1}, {33, 16}, {99, 49}, {100, 50}};
        for (int[] c : cases) {
            RoarMill x = first(1, 0, "size a breaks " + c[0] + " next 100", "size b", "ore x hard 1 tons 50");
            checks.due("broken by breaks " + c[0], x.tons(1, 0) + x.tons(1, 2), c[1]);
            checks.due("whole by breaks " + c[0], x.tons(0, 0) + x.tons(0, 2), 50 - c[1]);
        }
        // EFFECT 50 at 100 of 100: 100 times 99 times 50 by 10,000
        RoarMill x = first(2, 0, "size a breaks 99 next 100", "size b", "ore x hard 1 tons 50");
        checks.due("broken by EFFECT 50", x.tons(1, 0) + x.tons(1, 2), 49);
    }

    private static void next() {
        checks.says("Terms II", "next hundredths of that become the next SIZE, the rest the one behind that (without one: the next)");
        int[][] cases = {{0, 0, 50}, {33, 16, 34}, {50, 25, 25}, {99, 49, 1}, {100, 50, 0}};
        for (int[] c : cases) {
            RoarMill x = first(1, 0, "size a breaks 100 next " + c[0], "size b", "size c", "ore x hard 1 tons 50");
            checks.due("next by " + c[0], x.tons(1, 0) + x.tons(1, 2), c[1]);
            checks.due("behind by " + c[0], x.tons(2, 0) + x.tons(2, 2), c[2]);
            x = first(1, 0, "size a", "size b breaks 100 next " + c[0], "size c", "ore x hard 1 tons 0,50");
            checks.due("without one, by " + c[0], x.tons(2, 0) + x.tons(2, 2), 50);
        }
    }

    private static void neverBreaks() {
        checks.says("Terms II", "(A SIZE without breaks: 0; the last one never breaks.)");
        RoarMill x = first(1, 0, "size a", "size b", "ore x hard 1 tons 50");
        held(x, 40, 0);
        x = first(1, 0, "size a breaks 100 next 100", "size b breaks 100 next 100", "ore x hard 1 tons 0,50");
        held(x, 0, 40);
        // a MILL whose text told breaks of it came ahead
        x = Texts.mill("size a breaks 100 next 100", "size b", "ore x hard 1 tons 50");
        Checks.mill(x, Texts.with("size a", "size b", "ore x hard 1 tons 50"));
        x.set(1, 0, 0);
        x.go(1);
        held(x, 40, 0);
    }

    private static void out() {
        checks.says("Terms II", "5. Of each SIZE (20 and 10 times WATER) hundredths of what is HELD are out");
        int[] ofNine = {1, 2, 3, 4};
        int[] ofFifty = {10, 15, 20, 25};
        for (int water = 0; water < 4; water++) {
            RoarMill x = first(1, water, "size a", "size b", "size c", "ore x hard 1 tons 9,50,1");
            passed(x, ofNine[water], ofFifty[water], 0);
            held(x, 9 - ofNine[water], 50 - ofFifty[water], 1);
        }
    }

    private static void pass() {
        checks.says("Terms II", "6. Of those ahead of the sieve's SIZE TEARS times slips hundredths (100 at most) pass, the rest goes BACK;"
            + " the others pass all");
        // of 50 of each 25 are out by WATER 3
        int[][] cases = {{0, 50, 0}, {1, 0, 0}, {3, 0, 0}, {1, 1, 0}, {1, 4, 1}, {1, 50, 12}, {2, 49, 24}, {2, 50, 25}, {3, 33, 24},
            {3, 34, 25}, {3, 50, 25}};
        for (int[] c : cases) {
            RoarMill x = Texts.mill("drum room 200 loud 100", "size a", "size b", "size c", "sieve b slips " + c[1],
                "ore x hard 1 tons 50,50,50");
            x.mend(c[0], false);
            x.set(1, 3, 0);
            x.go(1);
            passed(x, c[2], 25, 25);
            back(x, 25 - c[2], 0, 0);
        }
        RoarMill x = first(1, 3, "drum room 200 loud 100", "size a", "size b", "size c", "sieve a slips 0", "ore x hard 1 tons 50,50,50");
        passed(x, 25, 25, 25);
        back(x, 0, 0, 0);
        x = first(1, 3, "drum room 200 loud 100", "size a", "size b", "size c", "sieve c slips 0", "ore x hard 1 tons 50,50,50");
        passed(x, 0, 0, 25);
        back(x, 25, 25, 0);
    }

    private static void bin() {
        checks.says("Terms II", "7. What passed comes into the bin; what is above its WHOLE is SPILT");
        RoarMill x = first(1, 3, "bin 10 draws 0", "ore x hard 1 tons 20");
        checks.due("10 into 10: the bin", x.state(0), 10);
        checks.due("SPILT", x.state(1), 0);
        x = first(1, 3, "bin 10 draws 0", "ore x hard 1 tons 20,2");
        checks.due("11 into 10: the bin", x.state(0), 10);
        checks.due("SPILT", x.state(1), 1);
        checks.due("passed in all", x.tons(0, 3) + x.tons(1, 3), 11);
        x = first(1, 3, "bin 1 draws 0", "ore x hard 1 tons 50,50");
        checks.due("50 into 1: the bin", x.state(0), 1);
        checks.due("SPILT", x.state(1), 49);
        // of 25 and 25 that stayed 12 and 12 pass
        x.set(0, 3, 0);
        x.go(1);
        checks.due("24 more: the bin", x.state(0), 1);
        checks.due("SPILT in all", x.state(1), 49 + 24);
    }

    private static void drawn() {
        checks.says("Terms II", "Then draws is DRAWN from it; what lacks is SHORT");
        int[][] cases = {{0, 10, 0, 0}, {4, 6, 4, 0}, {10, 0, 10, 0}, {11, 0, 10, 1}, {200, 0, 10, 190}};
        for (int[] c : cases) {
            RoarMill x = first(1, 3, "bin 10 draws " + c[0], "ore x hard 1 tons 30");
            checks.due("15 into 10, draws " + c[0] + ": the bin", x.state(0), c[1]);
            checks.due("DRAWN", x.state(2), c[2]);
            checks.due("SHORT", x.state(3), c[3]);
            checks.due("SPILT ahead of it", x.state(1), 5);
        }
    }

    private static void roar() {
        checks.says("Terms II", "8. ROAR: loud less (loud times FULL by room), 0 at least");
        int[][] cases = {{0, 1, 10}, {1, 1, 10}, {3, 1, 9}, {5, 1, 9}, {6, 1, 8}, {29, 1, 1}, {30, 1, 0}, {31, 1, 0}, {50, 3, 0}};
        for (int[] c : cases) {
            RoarMill x = first(c[1], 1, "drum room 30 loud 10", "ore x hard 1 tons " + c[0]);
            checks.due("ROAR of " + c[0] * c[1] + " of 30", x.state(11), c[2]);
        }
    }

    /** What is HELD goes round without end: 50 of 100; its POWER is 50, then 49 four times, then 48. */
    private static RoarMill round(String price) {
        RoarMill x = Texts.mill("size a", "size b", "sieve b slips 0", price, "ore x hard 1 tons 50");
        x.go(1);
        x.set(0, 1, 0);
        return x;
    }

    private static void cost() {
        checks.says("Terms II", "COST: POWER times price (by NOW, round)");
        RoarMill x = round("price 0,0,0,0,0,99");
        checks.due("HOUR 0", x.state(12), 0);
        x.go(4);
        checks.due("HOUR 4", x.state(12), 0);
        x.go(1);
        checks.due("HOUR 5: POWER", x.state(10), 48);
        checks.due("HOUR 5", x.state(12), 48 * 99);
        x.go(5);
        checks.due("HOUR 10", x.state(12), 48 * 99);
        x.go(1);
        checks.due("HOUR 11: POWER", x.state(10), 47);
        checks.due("HOUR 11", x.state(12), 95 * 99);
        x = round("price 7");
        checks.due("one price", x.state(12), 350);
        x.go(1);
        checks.due("the same again", x.state(12), 350 + 343);
        x = round("price 2,3");
        x.go(2);
        checks.due("the first again", x.state(12), 2 * 50 + 3 * 49 + 2 * 49);
    }

    private static void older() {
        checks.says("Terms II", "The liner is an HOUR older, NOW grows by 1");
        RoarMill x = first(1, 1, "drum room 20 loud 10", "ore x hard 1 tons 50");
        checks.due("it STANDS", x.state(6), 1);
        checks.due("HOURS of the liner", x.state(4), 1);
        checks.due("NOW", x.state(7), 1);
        x.mend(0, true);
        x.go(2);
        checks.due("HOURS of the liner", x.state(4), 2);
        checks.due("NOW", x.state(7), 3);
    }

    private static void set() {
        checks.says("Promise 6", "SETTINGS from now on: true");
        RoarMill x = Texts.mill("ore x hard 1 tons 10", "ore y hard 1 tons 20");
        x.go(1);
        checks.fine("set(0, 0, 0)", x, x.set(0, 0, 0));
        checks.fine("set(3, 3, 1)", x, x.set(3, 3, 1));
        checks.due("nothing came by it", x.state(13), 10);
        x.go(1);
        checks.due("TONS that came", x.state(13), 70);
        checks.says("Promise 6", "false: 1 (no MILL, ORE)");
        for (int ore : new int[] {-1, 2, 4, Integer.MAX_VALUE, Integer.MIN_VALUE}) {
            checks.refused("ORE " + ore, x, x.set(1, 1, ore), 1);
            checks.refused("ORE " + ore + " and a wrong RATE", x, x.set(4, 1, ore), 1);
        }
        RoarMill none = new RoarMill();
        checks.refused("no MILL", none, none.set(1, 1, 0), 1);
        checks.refused("no MILL and a wrong RATE", none, none.set(-1, 1, 0), 1);
        checks.says("Promise 6", "2 (RATE, WATER)");
        for (int wrong : new int[] {-1, 4, Integer.MAX_VALUE, Integer.MIN_VALUE}) {
            checks.refused("RATE " + wrong, x, x.set(wrong, 1, 0), 2);
            checks.refused("WATER " + wrong, x, x.set(1, wrong, 0), 2);
        }
        checks.due("RATE stays", x.state(14), 3);
        checks.due("WATER stays", x.state(15), 3);
        checks.due("ORE stays", x.state(16), 1);
    }

    private static void mend() {
        checks.says("Promise 7", "TEARS become so many (0 .. 3), the liner new if told: true");
        RoarMill x = Texts.mill();
        x.go(5);
        for (int tears = 0; tears < 4; tears++) {
            checks.fine("mend(" + tears + ", false)", x, x.mend(tears, false));
            checks.due("TEARS", x.state(5), tears);
            checks.due("HOURS of the liner", x.state(4), 5);
        }
        checks.fine("mend(0, true)", x, x.mend(0, true));
        checks.due("HOURS of the liner", x.state(4), 0);
        checks.due("TEARS", x.state(5), 0);
        x.go(2);
        x.mend(2, false);
        checks.says("Promise 7", "false: 1 (no MILL); 2");
        for (int wrong : new int[] {-1, 4, Integer.MAX_VALUE, Integer.MIN_VALUE}) {
            checks.refused("mend(" + wrong + ", true)", x, x.mend(wrong, true), 2);
            RoarMill none = new RoarMill();
            checks.refused("no MILL: mend(" + wrong + ", true)", none, none.mend(wrong, true), 1);
            checks.refused("no MILL: mend(0, true)", none, none.mend(0, true), 1);
        }
        checks.due("TEARS stay", x.state(5), 2);
        checks.due("HOURS of the liner stay", x.state(4), 2);
    }

    private static void go() {
        checks.says("Promise 8", "n HOURS (1 .. 24): in how many of them it doesn't STAND behind its step 3");
        RoarMill x = Texts.mill("drum room 20 loud 100", "size a", "size b", "sieve b slips 0", "ore x hard 1 tons 12");
        // 12 go round; 24: 3 are dug out; 21: 3; 18 go round, to which 12 come: 30: 4; 26: 3; 23: 3; 20 go round
        checks.fine("go(1)", x, x.go(1), 1);
        checks.fine("go(7)", x, x.go(7), 2);
        checks.due("HELD and going BACK", x.tons(0, 0) + x.tons(0, 1), 20);
        checks.due("STANDS", x.state(6), 0);
        checks.fine("go(24) of one that never STANDS", x, Texts.mill().go(24), 24);
        x = Texts.mill("drum room 20 loud 100", "ore x hard 1 tons 50,50");
        x.set(3, 0, 0);
        checks.fine("go(1) of one that STANDS", x, x.go(1), 0);
    }

    private static void goRefused() {
        checks.says("Promise 8", "NONE: 1 (no MILL); 2;");
        RoarMill none = new RoarMill();
        RoarMill x = Texts.mill();
        for (int wrong : new int[] {0, -1, 25, Integer.MAX_VALUE, Integer.MIN_VALUE}) {
            checks.refused("go(" + wrong + ")", x, x.go(wrong), 2);
            checks.refused("no MILL: go(" + wrong + ")", none, none.go(wrong), 1);
        }
        checks.refused("no MILL: go(1)", none, none.go(1), 1);
        checks.due("no HOUR went: NOW", x.state(7), 0);
        checks.says("Promise 8", "3 (NOW would be above 240)");
        for (int i = 0; i < 9; i++) {
            x.go(24);
        }
        checks.fine("to 217", x, x.go(1), 1);
        checks.refused("to 241", x, x.go(24), 3);
        checks.due("no HOUR went: NOW", x.state(7), 217);
        checks.fine("to 240", x, x.go(23), 23);
        checks.refused("to 241", x, x.go(1), 3);
        checks.refused("of no number", x, x.go(0), 2);
        checks.due("NOW", x.state(7), 240);
        checks.due("TONS that came", x.state(13), 2400);
    }

    private static void tons() {
        checks.says("Promise 9", "TONS of a SIZE: 0 HELD, 1 going BACK, 2 passed in the latest HOUR, 3 passed in all");
        RoarMill x = Texts.mill("size a", "size b", "sieve b slips 10", "ore x hard 1 tons 20,10");
        x.mend(1, false);
        x.set(1, 3, 0);
        x.go(1);
        held(x, 10, 5);
        back(x, 9, 0);
        passed(x, 1, 5);
        x.set(0, 3, 0);
        x.go(1);
        // 19 and 5: 9 and 2 are out
        held(x, 10, 3);
        back(x, 9, 0);
        passed(x, 0, 2);
        row(x, 3, 1, 7);
        checks.says("Promise 9", "NONE for none such");
        for (int wrong : new int[] {-1, 2, 5, Integer.MAX_VALUE, Integer.MIN_VALUE}) {
            checks.due("tons(" + wrong + ", 0)", x.tons(wrong, 0), RoarMill.NONE);
        }
        for (int wrong : new int[] {-1, 4, Integer.MAX_VALUE, Integer.MIN_VALUE}) {
            checks.due("tons(0, " + wrong + ")", x.tons(0, wrong), RoarMill.NONE);
        }
        checks.due("no MILL: tons(0, 0)", new RoarMill().tons(0, 0), RoarMill.NONE);
        checks.says("Promise 9", "0 ahead of any HOUR");
        x = Texts.mill("size a", "size b", "size c");
        for (int what = 0; what < 4; what++) {
            row(x, what, 0, 0, 0);
        }
    }

    private static void state() {
        checks.says("Promise 10", "0 TONS in the bin, 1 SPILT in all, 2 DRAWN in all, 3 SHORT in all, 4 HOURS of the liner, 5 TEARS,"
            + " 6 whether it STANDS (1), 7 NOW, 8 FULL of the latest HOUR, 9 its EFFECT (0 if left out), 10 its POWER, 11 its ROAR,"
            + " 12 COST in all, 13 TONS that came in all, 14 RATE, 15 WATER, 16 ORE");
        RoarMill x = Texts.mill("drum room 40 loud 100", "bin 8 draws 7", "price 3", "liner 50", "ore x hard 1 tons 10",
            "ore y hard 1 tons 20");
        x.go(1);
        checks.fine("mend", x, x.mend(3, true));
        // 10: 3 pass, 4 are SHORT; EFFECT 75, POWER 7
        check(x, 0, 0, 3, 4, 0, 3, 0, 1, 10, 75, 7, 75, 21, 10, 1, 1, 0);
        x.set(1, 3, 1);
        x.go(1);
        // 7 and 20: 13 pass, 5 are SPILT; 67 of 100: EFFECT 83, POWER 22; ROAR 100 less 67
        check(x, 1, 5, 10, 4, 1, 3, 0, 2, 27, 83, 22, 33, 87, 30, 1, 3, 1);
        x.set(2, 3, 1);
        x.go(1);
        // 14 and 40 of 40: 6 are dug out; 1 DRAWN, 6 SHORT
        check(x, 0, 11, 11, 10, 2, 3, 1, 3, 54, 0, 0, 0, 87, 70, 2, 3, 1);
        checks.says("Promise 10", "NONE for others");
        for (int wrong : new int[] {-1, 17, Integer.MAX_VALUE, Integer.MIN_VALUE}) {
            checks.due("state(" + wrong + ")", x.state(wrong), RoarMill.NONE);
            checks.due("no MILL: state(" + wrong + ")", new RoarMill().state(wrong), RoarMill.NONE);
        }
        checks.says("Promise 10", "0 for what there isn't");
        for (int i = 0; i < 17; i++) {
            checks.due("no MILL: state(" + i + ")", new RoarMill().state(i), 0);
        }
        x = Texts.mill();
        for (int i = 0; i < 14; i++) {
            checks.due("no HOUR yet: state(" + i + ")", x.state(i), 0);
        }
    }

    private static void check(RoarMill x, int... want) {
        for (int i = 0; i < want.length; i++) {
            checks.due("state(" + i + ")", x.state(i), want[i]);
        }
    }

    private static void led() {
        checks.says("Promise 28", "The i-th HOUR (by NOW) in which it stood");
        RoarMill x = Texts.mill("drum room 20 loud 100", "size a", "size b", "sieve b slips 0", "ore x hard 1 tons 12");
        x.go(8);
        // as told of go(): it goes in HOURS 0, 3 and 7
        int[] stood = {1, 2, 4, 5, 6};
        for (int i = 0; i < stood.length; i++) {
            checks.due("led(" + i + ")", x.led(i), stood[i]);
        }
        checks.says("Promise 28", "NoSuchElementException if there is none such");
        for (int wrong : new int[] {-1, 5, 239, 240, Integer.MAX_VALUE, Integer.MIN_VALUE}) {
            checks.noneLed(x, wrong);
        }
        checks.noneLed(new RoarMill(), 0);
        checks.noneLed(Texts.mill(), 0);
        x = Texts.mill("drum room 20 loud 100", "size a", "size b", "size c", "size d", "size e",
            "ore x hard 1 tons 50,50,50,50,50");
        x.set(3, 0, 0);
        x.go(1);
        checks.due("HOUR 0", x.led(0), 0);
        for (int i = 0; i < 9; i++) {
            x.go(24);
        }
        x.go(23);
        checks.due("it STANDS in HOUR 239", x.state(6), lastLed(x) == 239 ? 1 : 0);
    }

    private static int lastLed(RoarMill x) {
        int last = -1;
        for (int i = 0; i < 240; i++) {
            try {
                last = x.led(i);
            } catch (java.util.NoSuchElementException e) {
                return last;
            }
        }
        return last;
    }
}
