import java.util.Arrays;

/** The boundary cases of ways and rations, and of what is asked of the desk: part 6 of "Terms", promises 28 to 33. */
public final class RationsBoundaryTests {
    private static final int NONE = FrontierDesk.NONE;
    private static final int LEAST = Integer.MIN_VALUE;
    private static final int MOST = Integer.MAX_VALUE;

    private RationsBoundaryTests() {
    }

    public static void main(String[] args) {
        stepsBesideAboveBelow();
        stepsUpAndDown();
        stepsIntoWood();
        leastWays();
        stores();
        wants();
        nearestPairFirst();
        lesserNumbersFirst();
        asMuchAsCanBe();
        tillNobodyWants();
        greatestCost();
        promise28Refused();
        promise29Refused();
        promise30Refused();
        promise30StoresAreLeft();
        promise31Supplied();
        promise31Supposed();
        promise31Refused();
        promise32Look();
        promise32Refused();
        promise33Count();
        promise33Refused();
        manyCalls();
        Due.end();
    }

    private static FrontierDesk land(int w, int h) {
        FrontierDesk d = new FrontierDesk();
        Due.yes("land(" + w + ", " + h + ")", d.land(w, h));
        return d;
    }

    /** A FOUND POST at y 0 with so many MEN and rations. */
    private static void post(FrontierDesk d, int x, int men, int store) {
        int p = d.post(x, 0, 1, 1, true, men);
        Due.yes("STORE of " + p, d.store(p, store));
    }

    private static void left(FrontierDesk d, int... due) {
        for (int p = 0; p < due.length; p++) {
            Due.is("STORE of " + p, d.look(p, 4), due[p]);
        }
    }

    private static void supplied(FrontierDesk d, int post, int... due) {
        for (int what = 0; what < 3; what++) {
            Due.is("supplied(" + post + ", " + what + ")", d.supplied(post, what), due[what]);
        }
    }

    // ---- Terms

    private static void stepsBesideAboveBelow() {
        Due.sentence("A STEP from a CELL to one beside, above or below costs 10");
        for (int[] side : new int[][] {{4, 4}, {16, 4}, {4, 16}, {16, 16}, {5, 7}}) {
            FrontierDesk d = land(side[0], side[1]);
            int w = side[0];
            int h = side[1];
            int[][] at = {{0, 0}, {w - 1, 0}, {0, h - 1}, {w - 1, h - 1}, {1, 0}, {0, 1}, {1, 1}, {w - 2, h - 1}, {w - 1, h - 2}};
            for (int[] cell : at) {
                d.post(cell[0], cell[1], 1, 1, true, 0);
            }
            for (int a = 0; a < at.length; a++) {
                for (int b = 0; b < at.length; b++) {
                    int steps = Math.abs(at[a][0] - at[b][0]) + Math.abs(at[a][1] - at[b][1]);
                    Due.is("way over " + steps + " STEPS", d.way(a, b), 10 * steps);
                }
            }
        }
    }

    private static void stepsUpAndDown() {
        Due.sentence("twice the metres that it goes up or once those that it goes down");
        FrontierDesk d = new FrontierDesk();
        d.post(0, 0, 1, 1, true, 0);
        d.post(3, 0, 1, 1, true, 0);
        for (int metres : new int[] {0, 1, 2, 499, 998, 999}) {
            d.ground(2, 0, 3, 3, metres, 0);
            Due.is(metres + " up", d.way(0, 1), 30 + 2 * metres);
            Due.is(metres + " down", d.way(1, 0), 30 + metres);
        }
        d.ground(0, 0, 3, 3, 999, 0);
        Due.is("level, high up", d.way(0, 1), 30);
        d.ground(1, 0, 1, 3, 998, 0);
        Due.is("one down and one up", d.way(0, 1), 33);
    }

    private static void stepsIntoWood() {
        Due.sentence("and 5 times the WOOD there");
        FrontierDesk d = new FrontierDesk();
        d.post(0, 0, 1, 1, true, 0);
        d.post(1, 0, 1, 1, true, 0);
        for (int wood = 0; wood <= 3; wood++) {
            d.ground(1, 0, 1, 0, 0, wood);
            Due.is("into WOOD " + wood, d.way(0, 1), 10 + 5 * wood);
            Due.is("out of WOOD " + wood, d.way(1, 0), 10);
        }
        d.trees(3, 60, 60);
        Due.is("TREES don't matter", d.way(0, 1), 25);
        d.ground(1, 0, 1, 0, 999, 3);
        Due.is("the dearest STEP", d.way(0, 1), 10 + 1998 + 15);
    }

    private static void leastWays() {
        Due.sentence("WAY of two POSTS: the least cost from the CELL of the one to that of the other.");
        FrontierDesk d = land(4, 4);
        d.post(0, 0, 1, 1, true, 0);
        d.post(2, 0, 1, 1, false, 0);
        d.ground(1, 0, 1, 0, 0, 3);
        Due.is("through WOOD 3: 35, round it: 40", d.way(0, 1), 35);
        d.ground(1, 0, 1, 0, 1, 3);
        Due.is("and a metre up and down: 38", d.way(0, 1), 38);
        d.ground(1, 0, 1, 0, 2, 3);
        Due.is("41: round it", d.way(0, 1), 40);
        d.ground(1, 0, 1, 2, 999, 0);
        Due.is("the gap in the last row", d.way(0, 1), 80);
        d.ground(1, 3, 1, 3, 999, 0);
        Due.is("no gap", d.way(0, 1), 20 + 1998 + 999);
        Due.is("back", d.way(1, 0), 20 + 1998 + 999);
        d.ground(0, 0, 3, 3, 5, 0);
        Due.is("as soon as the LAND is another", d.way(0, 1), 20);
    }

    private static void stores() {
        Due.sentence("STORE of a POST that is FOUND: 0 .. 9999 rations (0 at first)");
        FrontierDesk d = new FrontierDesk();
        d.post(0, 0, 1, 1, true, 0);
        d.post(1, 0, 1, 1, false, 0);
        Due.is("0 at first", d.look(0, 4), 0);
        for (int rations : new int[] {9999, 9998, 1, 0}) {
            Due.yes("store " + rations, d.store(0, rations));
            Due.is("STORE", d.look(0, 4), rations);
        }
        d.store(0, 77);
        for (int rations : new int[] {LEAST, -9999, -1, 10000, 10001, 65536, MOST}) {
            Due.no("store " + rations, d.store(0, rations));
        }
        Due.is("as before", d.look(0, 4), 77);
        Due.no("of a SUPPOSED one", d.store(1, 0));
        d.dug(1, true);
        Due.is("0 when it is FOUND", d.look(1, 4), 0);
        Due.yes("of one that is FOUND now", d.store(1, 9999));
    }

    private static void wants() {
        Due.sentence("each FOUND POST wants MEN times D");
        int[][] due = {{0, 1}, {0, 99}, {1, 1}, {50, 99}, {50, 1}, {1, 99}};
        for (int[] w : due) {
            FrontierDesk d = land(4, 4);
            post(d, 0, w[0], 0);
            Due.is("nothing is carried", d.supply(w[1]), 0);
            supplied(d, 0, 0, w[0] * w[1], NONE);
            d.store(0, 9999);
            Due.is("from itself", d.supply(w[1]), 0);
            supplied(d, 0, w[0] * w[1], 0, w[0] > 0 ? 0 : NONE);
            left(d, 9999 - w[0] * w[1]);
        }
        FrontierDesk d = land(4, 4);
        post(d, 0, 0, 9);
        d.post(1, 0, 1, 1, false, 50);
        d.post(2, 0, 1, 1, false, 50);
        d.dug(2, false);
        Due.is("SUPPOSED and EMPTY ones want nothing", d.supply(99), 0);
        left(d, 9, 0, 0);
    }

    private static void nearestPairFirst() {
        Due.sentence("the two with the least WAY from the one to the other (a POST to itself 0)");
        FrontierDesk d = land(16, 4);
        post(d, 0, 5, 0);
        post(d, 1, 9, 9);
        post(d, 8, 0, 5);
        Due.is("1 feeds itself first, so 2 feeds 0", d.supply(1), 5 * 80);
        supplied(d, 0, 5, 0, 2);
        supplied(d, 1, 9, 0, 1);
        // Up to 1 it costs 14 and more than down to 2, though both are one STEP away.
        FrontierDesk e = land(16, 4);
        post(e, 5, 0, 5);
        post(e, 4, 5, 0);
        post(e, 6, 5, 0);
        e.ground(0, 0, 4, 3, 4, 0);
        e.ground(5, 0, 5, 3, 2, 0);
        Due.is("down", e.supply(1), 5 * 12);
        supplied(e, 2, 5, 0, 0);
        supplied(e, 1, 0, 5, NONE);
        // From the one to the other: 1 is above 0 and 2 below it.
        FrontierDesk f = land(16, 4);
        post(f, 5, 5, 0);
        post(f, 6, 0, 5);
        post(f, 4, 0, 5);
        f.ground(6, 0, 15, 3, 9, 0);
        f.ground(5, 0, 5, 3, 3, 0);
        Due.is("10 and 6 up are the same as 10 and 6 down: the lesser number", f.supply(1), 5 * 16);
        supplied(f, 0, 5, 0, 1);
        f.store(1, 5);
        f.ground(6, 0, 15, 3, 10, 0);
        Due.is("7 down", f.supply(1), 5 * 16);
        supplied(f, 0, 5, 0, 2);
    }

    private static void lesserNumbersFirst() {
        Due.sentence("of several the lesser number of the one, then of the other");
        FrontierDesk d = land(16, 4);
        post(d, 6, 5, 0);
        post(d, 4, 0, 5);
        post(d, 8, 0, 5);
        post(d, 2, 5, 0);
        // 1 to 0, 1 to 3 and 2 to 0 all cost 20: 1 to 0 it is, and then 2 has to go to 3.
        Due.is("supply", d.supply(1), 5 * 20 + 5 * 60);
        supplied(d, 0, 5, 0, 1);
        supplied(d, 3, 5, 0, 2);
        FrontierDesk e = land(16, 4);
        post(e, 8, 5, 0);
        post(e, 2, 5, 0);
        post(e, 4, 0, 5);
        post(e, 6, 0, 5);
        // 2 to 1 and 3 to 0 cost 20: each its own; 2 goes first, but it doesn't matter.
        Due.is("supply", e.supply(1), 5 * 20 + 5 * 20);
        FrontierDesk f = land(16, 4);
        post(f, 9, 0, 9);
        post(f, 12, 7, 0);
        post(f, 6, 7, 0);
        Due.is("of one to two the lesser first", f.supply(1), 9 * 30);
        supplied(f, 1, 7, 0, 0);
        supplied(f, 2, 2, 5, 0);
        FrontierDesk g = land(16, 4);
        post(g, 9, 9, 0);
        post(g, 12, 0, 7);
        post(g, 6, 0, 7);
        Due.is("of two to one the lesser first", g.supply(1), 9 * 30);
        left(g, 0, 0, 5);
        supplied(g, 0, 9, 0, 1);
        // The one counts before the other: 1 to 3 goes before 2 to 0.
        FrontierDesk i = land(16, 4);
        post(i, 6, 5, 0);
        post(i, 2, 0, 5);
        post(i, 4, 0, 5);
        post(i, 0, 5, 0);
        Due.is("supply", i.supply(1), 5 * 20 + 5 * 20);
        supplied(i, 0, 5, 0, 2);
        supplied(i, 3, 5, 0, 1);
    }

    private static void asMuchAsCanBe() {
        Due.sentence("as much as can be is carried");
        for (int store = 0; store <= 12; store++) {
            FrontierDesk d = land(4, 4);
            post(d, 0, 0, store);
            post(d, 1, 10, 0);
            int carried = Math.min(store, 10);
            Due.is("supply", d.supply(1), 10 * carried);
            supplied(d, 1, carried, 10 - carried, store > 0 ? 0 : NONE);
            left(d, store - carried, 0);
        }
    }

    private static void tillNobodyWants() {
        Due.sentence("and so on till nobody wants any, or no STORE is left.");
        FrontierDesk none = land(4, 4);
        Due.is("no POSTS", none.supply(1), 0);
        Due.is("none was there", none.supplied(0, 0), NONE);
        // Eleven little STORES for one that wants much, and the other way round.
        FrontierDesk d = land(16, 4);
        post(d, 0, 50, 0);
        for (int x = 1; x < 12; x++) {
            post(d, x, 0, 1);
        }
        Due.is("no STORE is left", d.supply(1), 10 * 66);
        supplied(d, 0, 11, 39, 1);
        left(d, 0, 0, 0, 0, 0, 0, 0, 0, 0, 0, 0, 0);
        FrontierDesk e = land(16, 4);
        post(e, 0, 0, 9999);
        for (int x = 1; x < 12; x++) {
            post(e, x, 50, 0);
        }
        Due.is("it is not enough for all", e.supply(99), 10 * (4950 + 2 * 4950 + 3 * 99));
        supplied(e, 3, 99, 4851, 0);
        supplied(e, 4, 0, 4950, NONE);
        e.store(0, 9999);
        Due.is("it is enough", e.supply(1), 10 * 50 * 66);
        supplied(e, 11, 50, 0, 0);
        left(e, 9999 - 550);
        // As many times as there can be: each time but the last ends one STORE or one want, not both.
        int[] store = {24, 28, 8, 21, 32, 34, 18, 7, 18, 26, 11, 10};
        int[] want = {20, 20, 20, 20, 20, 20, 20, 20, 20, 20, 20, 20};
        FrontierDesk f = land(16, 4);
        for (int p = 0; p < 12; p++) {
            post(f, p, 20, store[p]);
        }
        long most = carried(f, store, want, 23);
        Due.is("the 23rd time is the last", want[11], 3);
        Due.is("supply", f.supply(1), (int) most);
        left(f, store);
        for (int p = 0; p < 12; p++) {
            supplied(f, p, 20 - want[p], want[p], p);
        }
    }

    /** The dearest LAND: each STEP goes 999 up or down, into WOOD 3. Four STORES, eight that want, far away. */
    private static FrontierDesk dearest() {
        FrontierDesk d = land(16, 16);
        for (int x = 0; x < 16; x++) {
            for (int y = 0; y < 16; y++) {
                d.ground(x, y, x, y, (x + y) % 2 * 999, 3);
            }
        }
        int[][] at = {{0, 0}, {1, 0}, {0, 1}, {1, 1}, {15, 15}, {14, 15}, {15, 14}, {14, 14}, {13, 15}, {15, 13}, {12, 15}, {15, 12}};
        for (int p = 0; p < 12; p++) {
            d.post(at[p][0], at[p][1], 1, 1, true, p < 4 ? 0 : 50);
            d.store(p, p < 4 ? 9999 : 0);
        }
        return d;
    }

    /** The greatest COST is below 2147483647, so it never wraps around: NOTES.md says why. */
    private static void greatestCost() {
        Due.sentence("COST: rations times WAY.");
        FrontierDesk d = dearest();
        Due.is("the farthest way", d.way(0, 4), 15 * (1998 + 999) + 30 * 25);
        int[] store = {9999, 9999, 9999, 9999, 0, 0, 0, 0, 0, 0, 0, 0};
        int[] want = {0, 0, 0, 0, 4950, 4950, 4950, 4950, 4950, 4950, 4950, 4950};
        long cost = carried(d, store, want, 24);
        Due.yes("a great COST: " + cost, cost > 1_600_000_000L && cost < Integer.MAX_VALUE);
        Due.is("supply(99)", d.supply(99), (int) cost);
        left(d, store);
    }

    /** The COST of so many times carrying between twelve POSTS, by the desk's ways; STORES and wants change. */
    private static long carried(FrontierDesk d, int[] store, int[] want, int turns) {
        int[] ways = new int[12 * 12];
        for (int i = 0; i < ways.length; i++) {
            ways[i] = d.way(i / 12, i % 12);
        }
        long cost = 0;
        for (int turn = 0; turn < turns; turn++) {
            int best = NONE;
            for (int i = 0; i < ways.length; i++) {
                if (store[i / 12] > 0 && want[i % 12] > 0 && (best == NONE || ways[i] < ways[best])) {
                    best = i;
                }
            }
            if (best != NONE) {
                int rations = Math.min(store[best / 12], want[best % 12]);
                store[best / 12] -= rations;
                want[best % 12] -= rations;
                cost += (long) rations * ways[best];
            }
        }
        return cost;
    }

    // ---- Promises

    private static void promise28Refused() {
        Due.sentence("WAY; NONE: no such POSTS (EMPTY). 0 from a POST to itself.");
        int[][] wrong = {{-1, 0}, {0, -1}, {0, Story.POSTS}, {Story.POSTS, 0}, {5, 0}, {0, 5}, {5, 5}, {-1, -1},
            {Story.POSTS, Story.POSTS}, {12, 12}, {LEAST, 0}, {0, LEAST}, {MOST, 0}, {0, MOST}};
        for (int[] w : wrong) {
            Story.refuses("way" + Arrays.toString(w), d -> d.way(w[0], w[1]));
        }
        FrontierDesk d = Story.told();
        for (int p = 0; p < Story.POSTS; p++) {
            Due.is("to itself", d.way(p, p), p == 5 ? NONE : 0);
        }
        Due.is("the last POST", d.way(Story.POSTS - 1, 2), 50);
    }

    private static void promise29Refused() {
        Due.sentence("STORE: true; false: no such POST (FOUND), number.");
        int[][] wrong = {{-1, 1}, {Story.POSTS, 1}, {3, 1}, {5, 1}, {12, 1}, {0, -1}, {0, 10000}, {1, LEAST}, {1, MOST},
            {LEAST, 1}, {MOST, 1}};
        for (int[] w : wrong) {
            Story.refuses("store" + Arrays.toString(w), d -> Story.truth(d.store(w[0], w[1])), 0);
        }
        FrontierDesk d = Story.told();
        Due.yes("the last FOUND one", d.store(7, 9999));
        Due.is("STORE", d.look(7, 4), 9999);
        Due.is("another one's stays", d.look(1, 4), 33);
        Due.is("what was supplied stays", d.supplied(7, 0), 14);
    }

    private static void promise30Refused() {
        Due.sentence("To SUPPLY for 1 .. 99 days: its COST; NONE: no such number.");
        for (int days : new int[] {LEAST, -99, -1, 0, 100, 101, 257, MOST}) {
            Story.refuses("supply(" + days + ")", d -> d.supply(days));
        }
        FrontierDesk d = land(4, 4);
        post(d, 0, 0, 9999);
        post(d, 1, 50, 0);
        Due.is("1 day", d.supply(1), 50 * 10);
        Due.is("99 days", d.supply(99), 4950 * 10);
        left(d, 9999 - 5000, 0);
    }

    private static void promise30StoresAreLeft() {
        Due.sentence("STORES are what is left.");
        FrontierDesk d = land(4, 4);
        post(d, 0, 3, 10);
        post(d, 1, 4, 2);
        Due.is("one day", d.supply(1), 2 * 10);
        left(d, 5, 0);
        Due.is("another", d.supply(1), 2 * 10);
        left(d, 0, 0);
        supplied(d, 1, 2, 2, 0);
        Due.is("and another", d.supply(1), 0);
        left(d, 0, 0);
        supplied(d, 0, 0, 3, NONE);
    }

    private static void promise31Supplied() {
        Due.sentence("Of the latest supply(), at a POST, what 0: rations that came (from itself, too), 1: that it lacks, "
                + "2: from which POST the first came (NONE).");
        FrontierDesk d = land(16, 4);
        post(d, 0, 10, 4);
        post(d, 2, 0, 3);
        post(d, 3, 0, 2);
        Due.is("supply", d.supply(1), 3 * 20 + 2 * 30);
        supplied(d, 0, 9, 1, 0);
        supplied(d, 1, 0, 0, NONE);
        d.store(0, 500);
        supplied(d, 0, 9, 1, 0);
        d.store(0, 0);
        d.store(2, 50);
        Due.is("supply", d.supply(1), 10 * 30);
        supplied(d, 0, 10, 0, 2);
        FrontierDesk e = land(16, 4);
        for (int x = 0; x < 12; x++) {
            post(e, x, 1, x == 11 ? 12 : 0);
        }
        Due.is("supply", e.supply(1), 10 * 66);
        supplied(e, 11, 1, 0, 11);
        supplied(e, 0, 1, 0, 11);
    }

    private static void promise31Supposed() {
        Due.sentence("0, 0, NONE of one that was SUPPOSED.");
        FrontierDesk d = land(4, 4);
        post(d, 0, 0, 9);
        d.post(1, 0, 1, 1, false, 50);
        d.supply(99);
        supplied(d, 1, 0, 0, NONE);
        d.dug(1, true);
        supplied(d, 1, 0, 0, NONE);
        Due.is("FOUND now", d.supply(1), 9 * 10);
        supplied(d, 1, 9, 41, 0);
    }

    private static void promise31Refused() {
        Due.sentence("NONE: none was, there was no such POST then (nor one that was EMPTY), no such what.");
        int[][] wrong = {{-1, 0}, {Story.POSTS, 0}, {12, 0}, {5, 0}, {5, 1}, {5, 2}, {0, -1}, {0, 3}, {LEAST, 0}, {MOST, 0},
            {0, LEAST}, {0, MOST}};
        for (int[] w : wrong) {
            Story.refuses("supplied" + Arrays.toString(w), d -> d.supplied(w[0], w[1]));
        }
        FrontierDesk d = land(4, 4);
        post(d, 0, 1, 1);
        d.post(1, 0, 1, 1, false, 0);
        supplied(d, 0, NONE, NONE, NONE);
        Due.is("refused", d.supply(100), NONE);
        supplied(d, 0, NONE, NONE, NONE);
        Due.is("supply", d.supply(1), 0);
        supplied(d, 0, 1, 0, 0);
        post(d, 2, 1, 1);
        supplied(d, 2, NONE, NONE, NONE);
        d.dug(1, false);
        supplied(d, 1, 0, 0, NONE);
        Due.is("supply", d.supply(1), 10 * 0 + 0);
        supplied(d, 1, NONE, NONE, NONE);
        supplied(d, 2, 1, 0, 2);
    }

    private static void promise32Look() {
        Due.sentence("Of a POST, what 0: x, 1: y, 2: 0 FOUND, 1 SUPPOSED, 2 EMPTY, 3: MEN, 4: STORE, 5: LOW, 6: HIGH of its "
                + "TOWER.");
        FrontierDesk d = land(16, 16);
        int[][] due = {{0, 0, 0, 0, 0, 1, 1}, {15, 15, 0, 50, 9999, 40, 40}, {15, 0, 1, 50, 0, 1, 40}, {0, 15, 2, 7, 0, 39, 40}};
        d.post(0, 0, 1, 1, true, 0);
        d.post(15, 15, 40, 40, true, 50);
        d.post(15, 0, 1, 40, false, 50);
        d.post(0, 15, 39, 40, false, 7);
        d.store(1, 9999);
        d.dug(3, false);
        for (int p = 0; p < due.length; p++) {
            for (int what = 0; what < 7; what++) {
                Due.is("look(" + p + ", " + what + ")", d.look(p, what), due[p][what]);
            }
        }
    }

    private static void promise32Refused() {
        Due.sentence("NONE: no such one, what.");
        int[][] wrong = {{-1, 0}, {Story.POSTS, 0}, {12, 0}, {0, -1}, {0, 7}, {5, 7}, {LEAST, 0}, {MOST, 0}, {0, LEAST},
            {0, MOST}};
        for (int[] w : wrong) {
            Story.refuses("look" + Arrays.toString(w), d -> d.look(w[0], w[1]));
        }
        Due.is("no POST at all", new FrontierDesk().look(0, 0), NONE);
    }

    private static void promise33Count() {
        Due.sentence("0 W, 1 H, 2 POSTS (EMPTY too), 3 NOTES, 4 WORDS, 5 orders, 6 minutes, 7 look of the RULES.");
        FrontierDesk d = land(16, 15);
        for (int p = 0; p < 12; p++) {
            d.post(p, 0, 1, 1, false, 0);
            d.dug(p, false);
        }
        for (int i = 0; i < 60; i++) {
            d.note(0, 0, 9);
        }
        StringBuilder rules = new StringBuilder("minutes 9;look 30;");
        for (int i = 0; i < 10; i++) {
            rules.append("word ").append((char) ('a' + i)).append(" 1 ").append(1 + i / 9).append(' ').append(1 + i % 9).append(';');
        }
        Due.is("rules", Due.rules(d, rules + "order any a do pass;".repeat(16)), 10);
        int[] most = {16, 15, 12, 60, 10, 16, 9, 30};
        for (int what = 0; what < 8; what++) {
            Due.is("the most: count(" + what + ")", d.count(what), most[what]);
        }
        d.land(4, 5);
        d.rules(0);
        int[] least = {4, 5, 0, 0, 0, 0, 2, 1};
        for (int what = 0; what < 8; what++) {
            Due.is("the least: count(" + what + ")", d.count(what), least[what]);
        }
    }

    private static void promise33Refused() {
        Due.sentence("NONE for another what.");
        for (int what : new int[] {-1, 8, 9, LEAST, MOST}) {
            Story.refuses("count(" + what + ")", d -> d.count(what));
        }
    }

    /** The last of 512 calls answers as the first did. */
    private static void manyCalls() {
        Due.sentence("An object is used for at most 512 calls after it has been made");
        FrontierDesk d = new FrontierDesk();
        d.land(16, 4);
        d.post(0, 0, 1, 1, true, 0);
        d.post(15, 0, 1, 1, true, 0);
        for (int i = 3; i < 510; i++) {
            d.ground(1 + i % 14, 0, 1 + i % 14, 3, i, 3);
            i++;
            d.way(0, 1);
        }
        d.ground(0, 0, 15, 3, 0, 0);
        Due.is("the 512th", d.way(0, 1), 150);
    }
}
