/** Promises 23 to 26: what a change did beyond chance. */
public final class TriesTest {
    private static final String TWO = "drum room 100 loud 80;size a breaks 50 next 100;size b;sieve b slips 10;liner 10;"
        + "bin 50 draws 5;price 2,3;ore x hard 1 tons 20";

    private static final Checks checks = new Checks();

    public static void main(String[] args) {
        number();
        chance();
        fullRows();
        clear();
        checks.finish();
    }

    private static RoarMill tried(int[] before, int[] after) {
        RoarMill x = Checks.milled(TWO);
        for (int v : before) {
            x.number(false, v);
        }
        for (int v : after) {
            x.number(true, v);
        }
        return x;
    }

    private static void number() {
        checks.in("promise 23");
        RoarMill x = new RoarMill();
        checks.refused("number without a MILL", x, x.number(true, -1), 1);
        x = Checks.milled(TWO);
        checks.refused("number(true, -1)", x, x.number(true, -1), 2);
        checks.refused("number(false, 1000)", x, x.number(false, 1000), 2);
        for (int i = 1; i <= 8; i++) {
            checks.fine("number(true, ..) " + i, x, x.number(true, i % 2 == 0 ? 0 : 999), i);
        }
        checks.refused("a ninth after", x, x.number(true, 1), 3);
        checks.refused("a ninth after that is wrong", x, x.number(true, 1000), 2);
        checks.fine("the row before has room", x, x.number(false, 0), 1);
    }

    private static void chance() {
        checks.in("promises 24 and 25");
        RoarMill x = new RoarMill();
        checks.refused("chance without a MILL", x, x.chance(), 5);
        checks.refused("splits without a MILL", x, x.splits(), 5);
        x = tried(new int[] {1}, new int[] {});
        checks.refused("nothing after: chance", x, x.chance(), 5);
        checks.refused("nothing after: splits", x, x.splits(), 5);
        x = tried(new int[] {}, new int[] {1});
        checks.refused("nothing before: chance", x, x.chance(), 5);
        checks.refused("nothing before: splits", x, x.splits(), 5);
        x = tried(new int[] {1, 2}, new int[] {5});
        checks.fine("5 of 1, 2, 5", x, x.chance(), 1);
        checks.fine("splits()", x, x.splits(), 3);
        x = tried(new int[] {5, 2}, new int[] {1});
        checks.fine("each is no less than 1", x, x.chance(), 3);
        x = tried(new int[] {1, 2}, new int[] {5, 2});
        checks.fine("5 and either 2", x, x.chance(), 2);
        checks.fine("splits()", x, x.splits(), 6);
        x = tried(new int[] {3, 3, 3}, new int[] {3, 3});
        checks.fine("all alike", x, x.chance(), 10);
        // 4 + 4, 4 + 5 twice each way, 5 + 3, 5 + 4: pairs of 3, 4, 4, 5 of 8 or more: 44, 45, 45, 35
        x = tried(new int[] {4, 4}, new int[] {3, 5});
        checks.fine("8 or more", x, x.chance(), 4);
        checks.due("asking again", x.chance(), 4);
    }

    private static void fullRows() {
        checks.in("eight and eight");
        int[] low = {0, 1, 2, 3, 4, 5, 6, 7};
        int[] high = {992, 993, 994, 995, 996, 997, 998, 999};
        RoarMill x = tried(low, high);
        checks.fine("the highest eight", x, x.chance(), 1);
        checks.fine("splits()", x, x.splits(), 12870);
        x = tried(high, low);
        checks.fine("the lowest eight", x, x.chance(), 12870);
        x = tried(new int[] {0, 0, 0, 0, 0, 0, 0, 0}, new int[] {1, 0, 0, 0, 0, 0, 0, 0});
        checks.fine("those with the 1", x, x.chance(), 6435);
        x = tried(new int[] {7}, low);
        checks.fine("one and eight", x, x.splits(), 9);
    }

    private static void clear() {
        checks.in("promise 26");
        RoarMill x = tried(new int[] {1, 2}, new int[] {5});
        x.number(true, 1000);
        checks.due("clear()", x.clear(), 3);
        checks.due("it can't be refused: trouble()", x.trouble(), 2);
        checks.due("clear() of none", x.clear(), 0);
        checks.refused("chance()", x, x.chance(), 5);
        checks.fine("number()", x, x.number(true, 1), 1);
        checks.fine("number()", x, x.number(false, 1), 1);
        checks.fine("chance()", x, x.chance(), 2);
    }
}
