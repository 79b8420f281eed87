/** Terms III of a TRY, promises 23 to 26, sentence by sentence: each that names an edge has a test of its own. */
public final class EdgesOfTriesTest {
    private static final int[] WRONG = {-1, 1000, Integer.MIN_VALUE, Integer.MAX_VALUE};

    private static final Checks checks = new Checks();

    public static void main(String[] args) {
        rows();
        noLess();
        sameLengths();
        number();
        numberRefused();
        chance();
        splits();
        clear();
        checks.finish();
    }

    private static RoarMill tried(int[] before, int[] after) {
        RoarMill x = Texts.mill();
        for (int v : before) {
            x.number(false, v);
        }
        for (int v : after) {
            x.number(true, v);
        }
        return x;
    }

    private static int[] eight(int v) {
        return new int[] {v, v, v, v, v, v, v, v};
    }

    private static void rows() {
        checks.says("Terms III", "A TRY: two rows, before and after, of up to 8 numbers (0 .. 999) each");
        RoarMill x = tried(eight(999), eight(0));
        checks.refused("a ninth before", x, x.number(false, 1), 3);
        checks.refused("a ninth after", x, x.number(true, 1), 3);
        checks.fine("each split is no less: chance()", x, x.chance(), 12870);
        x = tried(eight(0), eight(999));
        checks.fine("one alone is no less: chance()", x, x.chance(), 1);
        x = tried(eight(0), new int[] {999});
        checks.fine("eight and one: chance()", x, x.chance(), 1);
        checks.fine("a second after has room", x, x.number(true, 999), 2);
    }

    private static void noLess() {
        checks.says("Terms III", "those in which the numbers after are together no less than they were");
        RoarMill x = tried(new int[] {5}, new int[] {5});
        checks.fine("as much", x, x.chance(), 2);
        x = tried(new int[] {4}, new int[] {5});
        checks.fine("one less", x, x.chance(), 1);
        x = tried(new int[] {6}, new int[] {5});
        checks.fine("one more", x, x.chance(), 2);
        x = tried(new int[] {0}, new int[] {0});
        checks.fine("none at all", x, x.chance(), 2);
        // together: 3 and 5 are 8; 4 and 4 are as much, 3 and 4 are less
        x = tried(new int[] {4, 4}, new int[] {3, 5});
        checks.fine("together", x, x.chance(), 4);
    }

    private static void sameLengths() {
        checks.says("Terms III", "CHANCE: of all splits of all its numbers in rows of the same lengths");
        RoarMill x = tried(new int[] {1, 1, 1}, new int[] {1});
        checks.fine("like numbers are split one by one: chance()", x, x.chance(), 4);
        checks.fine("splits()", x, x.splits(), 4);
        x = tried(new int[] {1}, new int[] {1, 1, 1});
        checks.fine("chance()", x, x.chance(), 4);
        x = tried(new int[] {9, 1, 1}, new int[] {9, 1});
        // 9 and 9, or one 9 with one of three: 1 and 6
        checks.fine("chance()", x, x.chance(), 7);
        checks.fine("splits()", x, x.splits(), 10);
    }

    private static void number() {
        checks.says("Promise 23", "A number comes behind the row before (or after) of THE TRY: how many it has");
        RoarMill x = Texts.mill();
        for (int i = 1; i <= 8; i++) {
            checks.fine("before", x, x.number(false, 0), i);
            checks.fine("after", x, x.number(true, 999), i);
        }
    }

    private static void numberRefused() {
        RoarMill x = Texts.mill();
        RoarMill none = new RoarMill();
        checks.says("Promise 23", "NONE: 1 (no MILL); 2; 3");
        checks.refused("no MILL: number(true, 1)", none, none.number(true, 1), 1);
        for (int wrong : WRONG) {
            checks.refused("no MILL: number(true, " + wrong + ")", none, none.number(true, wrong), 1);
            checks.refused("number(true, " + wrong + ")", x, x.number(true, wrong), 2);
            checks.refused("number(false, " + wrong + ")", x, x.number(false, wrong), 2);
        }
        checks.due("no number came: clear()", x.clear(), 0);
        x = tried(eight(1), eight(2));
        checks.refused("a ninth", x, x.number(true, 999), 3);
        checks.refused("a ninth", x, x.number(false, 999), 3);
        checks.refused("a ninth that is wrong", x, x.number(false, 1000), 2);
        checks.fine("none came: chance()", x, x.chance(), 1);
        checks.due("none came: clear()", x.clear(), 16);
    }

    private static void chance() {
        checks.says("Promise 24", "CHANCE: how many splits");
        RoarMill x = tried(new int[] {1, 2, 3}, new int[] {4, 5, 6});
        checks.fine("chance()", x, x.chance(), 1);
        checks.fine("asked again", x, x.chance(), 1);
        x.number(true, 0);
        // fours of 0 to 6 that are together 15 or more: 6543, 6542, 6541, 6540, 6532, 6531, 6432
        checks.fine("one more", x, x.chance(), 7);
        checks.says("Promise 24", "NONE: 5 (a row is empty)");
        RoarMill none = new RoarMill();
        checks.refused("no MILL", none, none.chance(), 5);
        x = tried(new int[] {}, new int[] {});
        checks.refused("both", x, x.chance(), 5);
        x = tried(new int[] {1}, new int[] {});
        checks.refused("after", x, x.chance(), 5);
        x = tried(new int[] {}, new int[] {1});
        checks.refused("before", x, x.chance(), 5);
    }

    private static void splits() {
        checks.says("Promise 25", "How many splits there are in all");
        int[][] cases = {{1, 1, 2}, {1, 8, 9}, {8, 1, 9}, {2, 3, 10}, {7, 8, 6435}, {8, 7, 6435}, {8, 8, 12870}};
        for (int[] c : cases) {
            RoarMill x = tried(new int[c[0]], new int[c[1]]);
            checks.fine(c[0] + " and " + c[1], x, x.splits(), c[2]);
        }
        checks.says("Promise 25", "NONE: 5");
        RoarMill none = new RoarMill();
        checks.refused("no MILL", none, none.splits(), 5);
        RoarMill x = tried(new int[] {}, new int[] {});
        checks.refused("both", x, x.splits(), 5);
        x = tried(new int[] {1}, new int[] {});
        checks.refused("after", x, x.splits(), 5);
        x = tried(new int[] {}, new int[] {1});
        checks.refused("before", x, x.splits(), 5);
    }

    private static void clear() {
        checks.says("Promise 26", "No TRY any more: how many numbers it had");
        checks.due("no MILL", new RoarMill().clear(), 0);
        RoarMill x = tried(eight(1), eight(2));
        checks.due("of two full rows", x.clear(), 16);
        checks.due("then of none", x.clear(), 0);
        checks.refused("a row is empty", x, x.chance(), 5);
        checks.fine("there is room", x, x.number(false, 7), 1);
        checks.due("of one row", x.clear(), 1);
        x.number(false, 7);
        x.number(true, 7);
        checks.fine("nothing of the one ahead is left", x, x.splits(), 2);
    }
}
