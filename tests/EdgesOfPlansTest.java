/** Terms III of PLANS and THE RULE, promises 19 to 22, sentence by sentence: each that names an edge has a test of its own. */
public final class EdgesOfPlansTest {
    private static final int[] WRONG = {0, -1, 6, Integer.MIN_VALUE, Integer.MAX_VALUE};

    private static final Checks checks = new Checks();

    public static void main(String[] args) {
        fromTheState();
        waterAndOre();
        neverStands();
        nothingShort();
        eachHour();
        leastCost();
        likeOnes();
        standsAtTheBeginning();
        leastRateByRule();
        noRateByRule();
        planHours();
        planRefused();
        rate();
        ruleAndLacks();
        checks.finish();
    }

    /** RATE times 10 come; by WATER 3 half of what is HELD passes. */
    private static RoarMill feeding(int room, String bin, String price) {
        RoarMill x = Texts.mill("drum room " + room + " loud 10", bin, price, "ore x hard 1 tons 10", "ore y hard 1 tons 25");
        x.set(1, 3, 0);
        return x;
    }

    private static void planned(RoarMill x, int cost, int... rates) {
        checks.fine("plan(" + rates.length + ")", x, x.plan(rates.length), cost);
        for (int i = 0; i < rates.length; i++) {
            checks.due("rate(" + i + ")", x.rate(i), rates[i]);
        }
        checks.due("rate(" + rates.length + ")", x.rate(rates.length), RoarMill.NONE);
    }

    private static void fromTheState() {
        checks.says("Terms III", "A PLAN over n HOURS from THE STATE");
        RoarMill x = feeding(100, "bin 999 draws 5", "price 0,9");
        planned(x, 0, 1);
        x.set(2, 3, 0);
        x.go(1);
        // 10 are HELD, 5 in the bin, NOW 1: 10 of 100: EFFECT 60, by the liner 59; POWER 5, times 9
        planned(x, 45, 0);
        checks.due("THE STATE stays: NOW", x.state(7), 1);
        checks.due("HELD", x.tons(0, 0), 10);
        checks.due("the bin", x.state(0), 5);
        checks.due("COST in all", x.state(12), 0);
        checks.due("RATE", x.state(14), 2);
        x = Texts.mill("drum room 100 loud 10", "size a", "size b", "sieve b slips 50", "bin 999 draws 5", "price 1", "liner 4",
            "ore x hard 1 tons 10");
        x.set(1, 3, 0);
        checks.refused("a sieve that is whole lets none of a pass", x, x.plan(1), 6);
        x.mend(2, false);
        // 10 of 100: EFFECT 60: POWER 6
        planned(x, 6, 1);
        checks.fine("rule(1)", x, x.rule(1), 6);
        x.set(0, 3, 0);
        x.go(2);
        // by a liner half its LIFE old EFFECT is 30
        planned(x, 3, 1);
        x.mend(2, true);
        planned(x, 6, 1);
        for (int i = 0; i < 23; i++) {
            x.go(10);
        }
        x.go(8);
        checks.due("NOW", x.state(7), 240);
        checks.in("beyond the last HOUR: go() alone is refused there");
        checks.refused("go(1)", x, x.go(1), 3);
        checks.fine("plan(5)", x, x.plan(5) >= 0);
        checks.fine("rule(5)", x, x.rule(5) >= 0);
    }

    private static void waterAndOre() {
        checks.says("Terms III", "(WATER and ORE as set)");
        int[][] cases = {{3, 0, 1}, {2, 0, 2}, {1, 0, 2}, {0, 0, 3}, {0, 1, 1}};
        for (int[] c : cases) {
            for (int rate = 0; rate < 4; rate++) {
                RoarMill x = feeding(100, "bin 999 draws 5", "price 0");
                x.set(rate, c[0], c[1]);
                planned(x, 0, c[2]);
            }
        }
    }

    private static void neverStands() {
        checks.says("Terms III", "RATES of each, by which it never STANDS");
        // 15 want 30: 30 of 30 isn't above
        planned(feeding(30, "bin 999 draws 15", "price 0"), 0, 3);
        RoarMill x = feeding(29, "bin 999 draws 15", "price 0");
        checks.refused("30 of 29", x, x.plan(1), 6);
        // RATE 1 and 2 of y are 25 and 50: 12 and none pass
        x = feeding(49, "bin 999 draws 13", "price 0");
        x.set(1, 3, 1);
        checks.refused("50 of 49", x, x.plan(1), 6);
        x = feeding(50, "bin 999 draws 13", "price 0");
        x.set(1, 3, 1);
        planned(x, 0, 2);
    }

    private static void nothingShort() {
        checks.says("Terms III", "and nothing is SHORT");
        planned(feeding(100, "bin 999 draws 0", "price 0"), 0, 0);
        planned(feeding(100, "bin 999 draws 10", "price 0"), 0, 2);
        planned(feeding(100, "bin 999 draws 11", "price 0"), 0, 3);
        planned(feeding(100, "bin 999 draws 15", "price 0"), 0, 3);
        RoarMill x = feeding(100, "bin 999 draws 16", "price 0");
        checks.refused("16", x, x.plan(1), 6);
        // the bin keeps 9 alone
        x = feeding(100, "bin 9 draws 10", "price 0");
        checks.refused("10 from a bin of 9", x, x.plan(1), 6);
    }

    /** 30 of 30, 15 pass and stay; then 25 are the most and pass 12. */
    private static void eachHour() {
        checks.in("a PLAN's RATES must do in each HOUR");
        RoarMill x = feeding(30, "bin 999 draws 15", "price 0");
        planned(x, 0, 3);
        checks.refused("plan(2)", x, x.plan(2), 6);
        checks.refused("plan(5)", x, x.plan(5), 6);
    }

    /** THE RULE feeds 10 and 10; cheaper are 20 in the HOUR that costs nothing, which leave 10 for the dear one. */
    private static void leastCost() {
        checks.says("Terms III", "of least COST");
        RoarMill x = feeding(40, "bin 20 draws 5", "price 0,9");
        // 10 of 40: EFFECT 75, by the liner 74; POWER 7; 15 of 40: 87, 86; POWER 12
        planned(x, 63, 2, 0);
        checks.fine("rule(2)", x, x.rule(2), 108);
        checks.fine("lacks(2)", x, x.lacks(2), 0);
        // a drum that is too full grinds with less POWER
        x = Texts.mill("drum room 100 loud 10", "size a", "size b", "sieve b slips 0", "price 1", "ore x hard 1 tons 25");
        x.set(2, 0, 0);
        x.go(1);
        // 50 go round: POWER 49; 75: 75 x 74: 55; 100: 100 x 49: 49; so 0
        planned(x, 49, 0);
        x.set(1, 0, 0);
        x.go(1);
        // 75 go round, HOURS 2: 75, 74: 55; by RATE 1: 100: 50, 49: 49
        planned(x, 49, 1);
    }

    private static void likeOnes() {
        checks.says("Terms III", "of like ones the least RATES from the first HOUR on");
        RoarMill x = feeding(100, "bin 999 draws 5", "price 0");
        x.set(2, 3, 0);
        x.go(1);
        // 10 HELD, 5 in the bin: 5 pass, then 2, which leaves 2 in the bin; then 1 would pass, by RATE 1 of 13 6
        planned(x, 0, 0, 0, 1);
        x = feeding(100, "bin 999 draws 0", "price 0");
        planned(x, 0, 0, 0, 0, 0, 0);
    }

    private static void standsAtTheBeginning() {
        checks.in("one that STANDS: behind step 3 of the HOUR it must not");
        RoarMill x = feeding(40, "bin 999 draws 0", "price 0");
        x.set(2, 3, 1);
        x.go(1);
        // 50: 6 are dug out, 44 are above 40 still
        checks.due("STANDS", x.state(6), 1);
        checks.refused("plan(1)", x, x.plan(1), 6);
        x.go(1);
        checks.due("HELD", x.tons(0, 0), 39);
        planned(x, 0, 0);
        checks.due("STANDS as before", x.state(6), 1);
        // nothing comes in that HOUR, whatever the RATE: 19 of 39 pass, not 20
        x = feeding(40, "bin 999 draws 19", "price 1");
        x.set(2, 3, 1);
        x.go(2);
        checks.due("HELD", x.tons(0, 0), 39);
        // 97 of 100: EFFECT 53, by the liner 52: POWER 20
        planned(x, 20, 0);
        checks.fine("rule(1)", x, x.rule(1), 20);
        x = Texts.mill("drum room 40 loud 10", "bin 999 draws 20", "ore x hard 1 tons 50", "ore y hard 1 tons 1");
        x.go(2);
        x.set(0, 3, 1);
        checks.due("HELD", x.tons(0, 0), 39);
        checks.refused("20", x, x.plan(1), 6);
        checks.fine("lacks(1)", x, x.lacks(1), 1);
    }

    private static void leastRateByRule() {
        checks.says("Terms III", "THE RULE: in each HOUR the least RATE by which in that HOUR it doesn't STAND and nothing is SHORT");
        int[][] cases = {{0, 0}, {1, 75 * 10}, {5, 75 * 10}, {6, 100 * 20}, {10, 100 * 20}, {11, 75 * 30}, {15, 75 * 30}};
        for (int[] c : cases) {
            RoarMill x = feeding(40, "bin 999 draws " + c[0], "price 1");
            checks.fine("rule(1) of draws " + c[0], x, x.rule(1), c[1] / 100);
            checks.fine("lacks(1) of draws " + c[0], x, x.lacks(1), 0);
        }
        RoarMill x = feeding(30, "bin 999 draws 15", "price 1");
        checks.fine("30 of 30", x, x.rule(1), 15);
        x = feeding(40, "bin 999 draws 5", "price 1");
        // 10: 5 pass; 15: 7 pass, 2 stay; then 8 do: 8 of 40: EFFECT 70, 69: 5; 7 and 12 ahead of it
        checks.fine("rule(2)", x, x.rule(2), 7 + 12);
        checks.fine("rule(3)", x, x.rule(3), 7 + 12 + 5);
        // 10 are HELD and 5 in the bin: RATE 0 does
        x.set(2, 3, 0);
        x.go(1);
        checks.fine("from THE STATE: rule(1)", x, x.rule(1), 7);
    }

    private static void noRateByRule() {
        checks.says("Terms III", "(if there is none: 0)");
        RoarMill x = feeding(29, "bin 999 draws 15", "price 1");
        checks.fine("rule(1)", x, x.rule(1), 0);
        checks.fine("lacks(1)", x, x.lacks(1), 15);
        checks.fine("rule(5)", x, x.rule(5), 0);
        checks.fine("lacks(5)", x, x.lacks(5), 75);
        x = feeding(30, "bin 999 draws 15", "price 1");
        // 30 of 30: POWER 15, none SHORT; then 15 by RATE 0: EFFECT 100, 99: 14; 7 pass, 8 are SHORT
        checks.fine("rule(2)", x, x.rule(2), 15 + 14);
        checks.fine("lacks(2)", x, x.lacks(2), 8);
        // then 8 HELD and 30: above; 28: 14 pass: SHORT. By 0: 26 of 100: 76, 75: 6; 4 pass, 11 are SHORT
        checks.fine("rule(3)", x, x.rule(3), 15 + 14 + 6);
        checks.fine("lacks(3)", x, x.lacks(3), 8 + 11);
    }

    private static void planHours() {
        checks.says("Promise 19", "A PLAN over n HOURS (1 .. 5): its COST");
        RoarMill x = Texts.mill("size a", "size b", "sieve b slips 0", "price 1", "ore x hard 1 tons 50");
        x.go(1);
        checks.due("COST in all", x.state(12), 50);
        // 50 go round: POWER 49, four times, then 48
        int[] costs = {49, 98, 147, 196, 244};
        for (int n = 1; n <= 5; n++) {
            planned(x, costs[n - 1], new int[n]);
        }
    }

    private static void planRefused() {
        RoarMill x = feeding(30, "bin 999 draws 16", "price 1");
        RoarMill none = new RoarMill();
        checks.says("Promise 19", "NONE: 1 (no MILL); 2; 6");
        for (int wrong : WRONG) {
            checks.refused("no MILL: plan(" + wrong + ")", none, none.plan(wrong), 1);
            checks.refused("plan(" + wrong + ")", x, x.plan(wrong), 2);
        }
        for (int n = 1; n <= 5; n++) {
            checks.refused("no MILL: plan(" + n + ")", none, none.plan(n), 1);
            checks.refused("no way: plan(" + n + ")", x, x.plan(n), 6);
        }
    }

    private static void rate() {
        checks.says("Promise 20", "Its RATE in the i-th HOUR, by the latest plan() since mill() that told a COST");
        RoarMill x = feeding(40, "bin 20 draws 5", "price 0,9");
        planned(x, 63, 2, 0);
        planned(x, 0, 1);
        planned(x, 63, 2, 0);
        checks.refused("plan(6)", x, x.plan(6), 2);
        checks.due("refused by 2: rate(0)", x.rate(0), 2);
        x.set(0, 3, 0);
        x.set(0, 0, 1);
        x.rule(5);
        x.lacks(5);
        x.go(1);
        checks.due("behind other calls: rate(0)", x.rate(0), 2);
        x.set(3, 3, 1);
        x.go(1);
        checks.refused("it STANDS", x, x.plan(5), 6);
        checks.due("refused by 6: rate(0)", x.rate(0), 2);
        checks.due("rate(1)", x.rate(1), 0);
        checks.refused("mill of a FAULT", x, x.mill(0), 4);
        checks.due("the MILL stays: rate(0)", x.rate(0), 2);
        Checks.mill(x, Texts.with());
        checks.due("since mill(): rate(0)", x.rate(0), RoarMill.NONE);
        checks.says("Promise 20", "NONE for none such");
        checks.due("no MILL: rate(0)", new RoarMill().rate(0), RoarMill.NONE);
        checks.due("no PLAN: rate(0)", feeding(40, "bin 20 draws 5", "price 0").rate(0), RoarMill.NONE);
        planned(x, x.plan(5), 0, 0, 0, 0, 0);
        for (int wrong : new int[] {-1, 5, Integer.MIN_VALUE, Integer.MAX_VALUE}) {
            checks.due("rate(" + wrong + ")", x.rate(wrong), RoarMill.NONE);
        }
        checks.fine("plan(1)", x, x.plan(1) >= 0);
        checks.due("of one HOUR: rate(1)", x.rate(1), RoarMill.NONE);
    }

    private static void ruleAndLacks() {
        RoarMill x = feeding(29, "bin 999 draws 15", "price 1");
        RoarMill none = new RoarMill();
        checks.says("Promise 21", "THE RULE over n HOURS (1 .. 5): its COST");
        x.set(2, 3, 0);
        x.go(1);
        // 20 of 29: EFFECT 82: POWER 16, 5 SHORT; 10 HELD: 84, 83: 8; 5 SHORT and 10; 5: 67, 66: 3; 13; 3: 60, 59: 1; ..
        checks.due("COST in all", x.state(12), 16);
        int[] costs = {8, 11, 12, 13, 13};
        int[] lacks = {10, 23, 37, 51, 66};
        for (int n = 1; n <= 5; n++) {
            checks.fine("rule(" + n + ")", x, x.rule(n), costs[n - 1]);
        }
        checks.says("Promise 22", "Likewise what is SHORT in them");
        checks.due("SHORT in all", x.state(3), 5);
        for (int n = 1; n <= 5; n++) {
            checks.fine("lacks(" + n + ")", x, x.lacks(n), lacks[n - 1]);
        }
        checks.due("THE STATE stays: SHORT in all", x.state(3), 5);
        checks.due("NOW", x.state(7), 1);
        checks.says("Promise 21", "NONE: 1 (no MILL); 2");
        for (int wrong : WRONG) {
            checks.refused("rule(" + wrong + ")", x, x.rule(wrong), 2);
            checks.refused("no MILL: rule(" + wrong + ")", none, none.rule(wrong), 1);
        }
        checks.refused("no MILL: rule(1)", none, none.rule(1), 1);
        checks.says("Promise 22", "NONE: 1; 2");
        for (int wrong : WRONG) {
            checks.refused("lacks(" + wrong + ")", x, x.lacks(wrong), 2);
            checks.refused("no MILL: lacks(" + wrong + ")", none, none.lacks(wrong), 1);
        }
        checks.refused("no MILL: lacks(1)", none, none.lacks(1), 1);
    }
}
