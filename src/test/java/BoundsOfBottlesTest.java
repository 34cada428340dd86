/** The boundary sentences of Terms 3 on bottles and of promises 17 and 18. */
public final class BoundsOfBottlesTest {
    private static final int NONE = RopeMountain.NONE;
    private static final int LEAST = Integer.MIN_VALUE;
    private static final int MOST = Integer.MAX_VALUE;
    private static final int[] FAR = {LEAST, LEAST + 1, -3000, 3000, MOST - 1, MOST};

    public static void main(String[] args) {
        aCarrierTakesOneToFour();
        needOfNoBottles();
        needTakesUpToTwoHundred();
        needRefusesOthers();
        comesTakesUpToTwoThousand();
        comesRefusesOthers();
        campsOfEachMountain();
        needAndComesOfAll();
        askingChangesNothing();
        Check.end();
    }

    private static void due(String what, long got, long want) {
        Check.due(what, got, want);
    }

    /** The most over one high pitch: as many carriers as come out best, each with at most 4, each using one. */
    private static int over(int bottles) {
        int most = 0;
        for (int carriers = 1; carriers <= bottles; carriers++) {
            most = Math.max(most, Math.min(bottles, 4 * carriers) - carriers);
        }
        return most;
    }

    private static int[] overTable() {
        int[] table = new int[2001];
        for (int b = 0; b < table.length; b++) {
            table[b] = over(b);
        }
        return table;
    }

    private static RopeMountain withHigh(int n, int high) {
        RopeMountain x = new RopeMountain();
        x.mountain(n);
        x.high(high);
        return x;
    }

    private static void aCarrierTakesOneToFour() {
        RopeMountain x = withHigh(1, 0);
        int[] comes = {0, 0, 1, 2, 3, 3, 4, 5, 6, 6, 7};
        for (int b = 0; b < comes.length; b++) {
            due("comes(1, " + b + ")", x.comes(1, b), comes[b]);
        }
        int[] need = {0, 2, 3, 4, 6, 7, 8, 10};
        for (int b = 0; b < need.length; b++) {
            due("need(1, " + b + ")", x.need(1, b), need[b]);
        }
        x.high(1);
        for (int b = 0; b < comes.length; b++) {
            due("a pitch that is not high: comes", x.comes(1, b), b);
            due("a pitch that is not high: need", x.need(1, b), b);
        }
    }

    private static void needOfNoBottles() {
        for (int n = 1; n <= 6; n++) {
            for (int high = 0; high <= n; high++) {
                RopeMountain x = withHigh(n, high);
                for (int camp = 0; camp <= n; camp++) {
                    due("need of none", x.need(camp, 0), 0);
                    due("comes of none", x.comes(camp, 0), 0);
                }
            }
        }
    }

    private static void needTakesUpToTwoHundred() {
        RopeMountain x = new RopeMountain();
        due("need(2, 199)", x.need(2, 199), 199 + 67);
        due("need(2, 200)", x.need(2, 200), 200 + 67);
        due("need(2, 201)", x.need(2, 201), NONE);
        due("need(0, 200)", x.need(0, 200), 200);
        due("need(0, 201)", x.need(0, 201), NONE);
        due("need(1, 201)", x.need(1, 201), NONE);
        due("need(0, -1)", x.need(0, -1), NONE);
        // 200, 267, 356, 475, 634, 846, 1128.
        due("the most", withHigh(6, 0).need(6, 200), 1128);
    }

    private static void needRefusesOthers() {
        int[][] refused = {{-1, 0}, {-1, 5}, {5, 0}, {5, 5}, {7, 5}, {0, -1}, {0, 201}, {1, -1}, {1, 201}, {2, -1},
            {2, 201}, {-1, -1}, {5, 201}};
        for (int[] r : refused) {
            Twins.dueNone("need(" + r[0] + ", " + r[1] + ")", x -> x.need(r[0], r[1]));
        }
        for (int far : FAR) {
            Twins.dueNone("need(" + far + ", 5)", x -> x.need(far, 5));
            Twins.dueNone("need(1, " + far + ")", x -> x.need(1, far));
            Twins.dueNone("need of both far", x -> x.need(far, far));
        }
    }

    private static void comesTakesUpToTwoThousand() {
        RopeMountain x = new RopeMountain();
        due("comes(2, 1999)", x.comes(2, 1999), 1499);
        due("comes(2, 2000)", x.comes(2, 2000), 1500);
        due("comes(2, 2001)", x.comes(2, 2001), NONE);
        due("comes(0, 2000)", x.comes(0, 2000), 2000);
        due("comes(0, 2001)", x.comes(0, 2001), NONE);
        due("comes(1, 2001)", x.comes(1, 2001), NONE);
        due("comes(0, -1)", x.comes(0, -1), NONE);
        // 2000, 1500, 1125, 843, 632, 474, 355.
        due("the most", withHigh(6, 0).comes(6, 2000), 355);
    }

    private static void comesRefusesOthers() {
        int[][] refused = {{-1, 0}, {-1, 5}, {5, 0}, {5, 5}, {7, 5}, {0, -1}, {0, 2001}, {1, -1}, {1, 2001},
            {2, -1}, {2, 2001}, {-1, -1}, {5, 2001}};
        for (int[] r : refused) {
            Twins.dueNone("comes(" + r[0] + ", " + r[1] + ")", x -> x.comes(r[0], r[1]));
        }
        for (int far : FAR) {
            Twins.dueNone("comes(" + far + ", 5)", x -> x.comes(far, 5));
            Twins.dueNone("comes(1, " + far + ")", x -> x.comes(1, far));
            Twins.dueNone("comes of both far", x -> x.comes(far, far));
        }
    }

    private static void campsOfEachMountain() {
        for (int n = 1; n <= 6; n++) {
            RopeMountain x = withHigh(n, 0);
            for (int camp = -2; camp <= 8; camp++) {
                boolean isCamp = camp >= 0 && camp <= n;
                due("need(" + camp + ", 1) of " + n, x.need(camp, 1) == NONE ? 0 : 1, isCamp ? 1 : 0);
                due("comes(" + camp + ", 1) of " + n, x.comes(camp, 1) == NONE ? 0 : 1, isCamp ? 1 : 0);
            }
        }
        RopeMountain x = withHigh(6, 0);
        x.mountain(2);
        due("need at a camp that is gone", x.need(3, 1), NONE);
        due("comes to a camp that is gone", x.comes(3, 1), NONE);
    }

    private static void needAndComesOfAll() {
        int[] table = overTable();
        for (int n = 1; n <= 6; n++) {
            for (int high = 0; high <= n; high++) {
                RopeMountain x = withHigh(n, high);
                for (int camp = 0; camp <= n; camp++) {
                    dueAllAt(x, camp, Math.max(camp - high, 0), table);
                    x = withHigh(n, high);
                }
            }
        }
    }

    /** In parts, so that no object has more calls than it is used for. */
    private static void dueAllAt(RopeMountain first, int camp, int highPitches, int[] table) {
        RopeMountain x = first;
        int n = first.count(0);
        int high = first.count(3);
        int needed = 0;
        for (int b = 0; b <= 2000; b++) {
            if (b % 200 == 199) {
                x = withHigh(n, high);
            }
            int come = b;
            for (int k = 0; k < highPitches; k++) {
                come = table[come];
            }
            due("comes(" + camp + ", " + b + ") of " + n + ", high " + high, x.comes(camp, b), come);
            // The first b with which so many come is the need of all up to them.
            for (; needed <= come && needed <= 200; needed++) {
                due("need(" + camp + ", " + needed + ") of " + n + ", high " + high, x.need(camp, needed), b);
            }
        }
        due("all needs are asked", needed, 201);
    }

    private static void askingChangesNothing() {
        Twins.dueUnchanged("need(2, 200)", RopeMountain::new, x -> x.need(2, 200), 267);
        Twins.dueUnchanged("comes(2, 2000)", RopeMountain::new, x -> x.comes(2, 2000), 1500);
        Twins.dueUnchanged("need(4, 200)", Twins::told, x -> x.need(4, 200), 267);
        Twins.dueUnchanged("comes(4, 2000)", Twins::told, x -> x.comes(4, 2000), 1500);
        Twins.dueUnchanged("need(3, 200)", Twins::full, x -> x.need(3, 200), 356);
        Twins.dueUnchanged("comes(3, 2000)", Twins::full, x -> x.comes(3, 2000), 1125);
    }
}
