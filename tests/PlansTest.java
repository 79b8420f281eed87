/** Promises 19 to 22: PLANS and THE RULE. */
public final class PlansTest {
    private static final String TWO = "drum room 100 loud 80;size a breaks 50 next 100;size b;sieve b slips 10;liner 10;"
        + "bin 50 draws 5;price 2,3;ore x hard 1 tons 20";
    /** All that is HELD is fine; half of it (WATER 3) or a fifth (WATER 0) passes at once. */
    private static final String FINE = "drum room 40 loud 10;size a;size b;sieve a slips 0;liner 200;bin 20 draws 5;"
        + "price 9,0;ore x hard 1 tons 0,10;ore y hard 1 tons 0,50;ore z hard 1 tons 0";

    private static final Checks checks = new Checks();

    public static void main(String[] args) {
        refusals();
        ordinary();
        dearAndCheap();
        noWay();
        likeOnes();
        standing();
        rule();
        checks.finish();
    }

    private static void refusals() {
        checks.in("refusals");
        RoarMill x = new RoarMill();
        checks.refused("plan without a MILL", x, x.plan(0), 1);
        checks.refused("rule without a MILL", x, x.rule(0), 1);
        checks.refused("lacks without a MILL", x, x.lacks(0), 1);
        x = Checks.milled(TWO);
        for (int n : new int[] {-1, 0, 6, Integer.MAX_VALUE}) {
            checks.refused("plan(" + n + ")", x, x.plan(n), 2);
            checks.refused("rule(" + n + ")", x, x.rule(n), 2);
            checks.refused("lacks(" + n + ")", x, x.lacks(n), 2);
        }
        checks.due("rate(0)", x.rate(0), RoarMill.NONE);
    }

    private static void ordinary() {
        checks.in("promises 19 and 20");
        RoarMill x = Checks.milled(TWO);
        checks.fine("plan(1)", x, x.plan(1), 72);
        checks.due("rate(0)", x.rate(0), 2);
        checks.due("rate(1)", x.rate(1), RoarMill.NONE);
        checks.due("rate(-1)", x.rate(-1), RoarMill.NONE);
        checks.fine("plan(2)", x, x.plan(2), 150);
        checks.due("rate(0)", x.rate(0), 2);
        checks.due("rate(1)", x.rate(1), 0);
        checks.refused("plan(6)", x, x.plan(6), 2);
        checks.due("rate(1) stays", x.rate(1), 0);
        for (int i = 0; i < 17; i++) {
            checks.due("state(" + i + ") stays", x.state(i), i == 14 || i == 15 ? 1 : 0);
        }
        checks.fine("plan(5)", x, x.plan(5) > 150);
        checks.due("rate(4)", x.rate(4) >= 0, true);
        checks.due("rate(5)", x.rate(5), RoarMill.NONE);
    }

    /** WATER 3: 10 HELD give 5 to draw. The second HOUR costs nothing, whatever it grinds. */
    private static void dearAndCheap() {
        checks.in("dear and cheap HOURS");
        RoarMill x = Checks.milled(FINE);
        x.set(0, 3, 0);
        // 10: 100 less (50 less 25): 75; POWER 7, times 9
        checks.fine("plan(1)", x, x.plan(1), 63);
        checks.due("rate(0)", x.rate(0), 1);
        // 5 of them stay, of which 2 would pass: the HOUR behind wants a RATE of 1 too, at no price
        checks.fine("plan(2)", x, x.plan(2), 63);
        checks.due("rate(0)", x.rate(0), 1);
        checks.due("rate(1)", x.rate(1), 1);
        checks.fine("rule(2)", x, x.rule(2), 63);
        checks.fine("lacks(2)", x, x.lacks(2), 0);
        // THE RULE: 15 HELD, 7 pass, 2 stay; then 8 HELD, 4 pass and 6 are enough: 8 of 40 is 20: 70, LIFE 200 less 2: 69;
        // POWER 5, times 9. THE PLAN grinds 25 in the second HOUR: 12 pass, 7 stay; then 13 HELD are dearer: so the same
        checks.fine("rule(3)", x, x.rule(3), 63 + 45);
        checks.fine("plan(3)", x, x.plan(3), 63 + 45);
        x.go(1);
        checks.fine("by NOW 1: plan(1)", x, x.plan(1), 0);
        checks.due("rate(0)", x.rate(0), 1);
        x = Checks.milled(FINE);
        x.set(2, 3, 0);
        x.go(2);
        checks.due("COST in all: 20 x 9, 30 x 0", x.state(12), 180);
        checks.due("HELD", x.tons(1, 0), 15);
        // 15 of 40 is 37: 87, LIFE 200 less 2: 86; POWER 12, times 9: what came ahead doesn't count
        checks.fine("plan(1)", x, x.plan(1), 108);
        checks.fine("rule(1)", x, x.rule(1), 108);
    }

    private static void noWay() {
        checks.in("no way");
        RoarMill x = Checks.milled(FINE);
        x.set(1, 0, 0);
        // a fifth of 30 is 6: RATE 3 alone; then 24 and 10: 6 again
        checks.fine("plan(1)", x, x.plan(1), 9 * (30 * 75 / 100));
        checks.due("rate(0)", x.rate(0), 3);
        checks.fine("rule(1) by RATE 3", x, x.rule(1), 9 * (30 * 75 / 100));
        checks.fine("lacks(1)", x, x.lacks(1), 0);
        x.set(1, 3, 1);
        checks.fine("nothing HELD, 50 are above room: rule(1)", x, x.rule(1), 0);
        checks.refused("plan(1)", x, x.plan(1), 6);
        checks.due("rate(0) of the one ahead", x.rate(0), 3);
        checks.fine("lacks(1)", x, x.lacks(1), 5);
        checks.fine("lacks(5)", x, x.lacks(5), 25);
        checks.refused("where() is of FAULTS alone", x, x.plan(5), 6);
        checks.due("where()", x.where(), RoarMill.NONE);
    }

    /** What comes costs nothing and isn't needed: RATES of 0; with a price of 0 the least RATES that do. */
    private static void likeOnes() {
        checks.in("like ones");
        RoarMill x = Checks.milled(FINE.replace("price 9,0", "price 0").replace("draws 5", "draws 0"));
        checks.fine("plan(5)", x, x.plan(5), 0);
        for (int i = 0; i < 5; i++) {
            checks.due("rate(" + i + ")", x.rate(i), 0);
        }
        x = Checks.milled(FINE.replace("price 9,0", "price 0"));
        x.set(0, 3, 0);
        checks.fine("plan(3)", x, x.plan(3), 0);
        // 1: 10, 5 pass; 0: 5, 2 pass, too few; so 1: 15, 7 pass, 2 stay; 8 HELD: 4 pass, with 2 enough
        checks.due("rate(0)", x.rate(0), 1);
        checks.due("rate(1)", x.rate(1), 1);
        checks.due("rate(2)", x.rate(2), 0);
        x = Checks.milled(FINE);
        x.set(0, 3, 2);
        checks.refused("an ORE of nothing", x, x.plan(1), 6);
    }

    /** While it STANDS nothing comes, so that each RATE is like 0. */
    private static void standing() {
        checks.in("it STANDS");
        RoarMill x = Checks.milled(FINE.replace("draws 5", "draws 0"));
        x.set(1, 3, 1);
        checks.fine("go(1): 50 of 40", x, x.go(1), 0);
        checks.due("6 were dug out", x.tons(1, 0), 44);
        checks.refused("44: it STANDS on", x, x.plan(1), 6);
        checks.fine("go(1)", x, x.go(1), 0);
        checks.due("5 were dug out", x.tons(1, 0), 39);
        // 39 of 40: 97, 47 from 50: 53; LIFE 200 less 2: 52; POWER 20, times 9
        checks.fine("39: plan(1)", x, x.plan(1), 180);
        checks.due("rate(0)", x.rate(0), 0);
        checks.fine("rule(1)", x, x.rule(1), 180);
        checks.due("it STANDS as before", x.state(6), 1);
    }

    private static void rule() {
        checks.in("promises 21 and 22");
        RoarMill x = Checks.milled(TWO);
        checks.fine("rule(1)", x, x.rule(1), 72);
        checks.fine("rule(2)", x, x.rule(2), 150);
        checks.fine("lacks(2)", x, x.lacks(2), 0);
        checks.due("THE RULE is no PLAN", x.rate(0), RoarMill.NONE);
        x = Checks.milled(FINE.replace("draws 5", "draws 9"));
        x.set(0, 3, 0);
        // RATE 2: 10 pass, 1 stays. Then 10 HELD: 0 gives 5, 1 gives 10 of 20. COST of 20: 20 x 9; the next for 0
        checks.fine("rule(1)", x, x.rule(1), 180);
        checks.fine("rule(2)", x, x.rule(2), 180);
        checks.fine("lacks(1)", x, x.lacks(1), 0);
        x = Checks.milled(FINE.replace("draws 5", "draws 20"));
        x.set(0, 3, 0);
        // 30 HELD pass 15: none is enough, so RATE 0 and all is SHORT
        checks.fine("rule(3)", x, x.rule(3), 0);
        checks.fine("lacks(3)", x, x.lacks(3), 60);
        checks.due("SHORT stays", x.state(3), 0);
        x.set(3, 3, 0);
        x.go(1);
        checks.due("SHORT", x.state(3), 5);
        // 15 HELD and 20: 17 pass, 30: above room. So 0: 7 pass, 13 are SHORT
        checks.fine("what was SHORT ahead doesn't count: lacks(1)", x, x.lacks(1), 13);
    }
}
