import java.util.Arrays;

/** The boundary cases of the LAND, of POSTS and of who sees whom: part 1 of "Terms", promises 1 to 10. */
public final class LandBoundaryTests {
    private static final int NONE = FrontierDesk.NONE;
    private static final int LEAST = Integer.MIN_VALUE;
    private static final int MOST = Integer.MAX_VALUE;

    private LandBoundaryTests() {
    }

    public static void main(String[] args) {
        sidesOfTheLand();
        cellsFromNoughtOn();
        heights();
        woods();
        treesOfWoods();
        bends();
        hazes();
        mostPosts();
        anotherCellEach();
        towersAndMen();
        emptyOnes();
        linesBetweenNeighbours();
        everyCellBetween();
        halvesGoUpward();
        notAboveExactly();
        bendExactly();
        eyes();
        sureReach();
        mayIfNotSure();
        linkedBothWays();
        raises();
        promise1NewObject();
        promise2AnotherLand();
        promise2Refused();
        promise3Cells();
        promise3Refused();
        promise4Refused();
        promise5Refused();
        promise6Refused();
        promise7Post();
        promise7Refused();
        promise8Refused();
        promise9Block();
        promise9Refused();
        promise10Refused();
        Due.end();
    }

    private static FrontierDesk land(int w, int h) {
        FrontierDesk d = new FrontierDesk();
        Due.yes("land(" + w + ", " + h + ")", d.land(w, h));
        return d;
    }

    /** Two FOUND POSTS with TOWERS of 1 metre. */
    private static FrontierDesk pair(int ax, int ay, int bx, int by) {
        FrontierDesk d = land(16, 16);
        Due.is("POST a", d.post(ax, ay, 1, 1, true, 0), 0);
        Due.is("POST b", d.post(bx, by, 1, 1, true, 0), 1);
        return d;
    }

    // ---- Terms

    private static void sidesOfTheLand() {
        Due.sentence("LAND of W by H CELLS (4 .. 16 each; 4 by 4 at first)");
        FrontierDesk d = new FrontierDesk();
        Due.is("W at first", d.count(0), 4);
        Due.is("H at first", d.count(1), 4);
        for (int side = 4; side <= 16; side++) {
            for (int other : new int[] {4, 5, 15, 16}) {
                Due.yes("land(" + side + ", " + other + ")", d.land(side, other));
                Due.is("W", d.count(0), side);
                Due.is("H", d.count(1), other);
                Due.yes("land(" + other + ", " + side + ")", d.land(other, side));
                Due.is("W", d.count(0), other);
                Due.is("H", d.count(1), side);
            }
        }
        d.land(7, 9);
        for (int side : new int[] {LEAST, -16, -4, -1, 0, 1, 3, 17, 18, 260, 65540, MOST}) {
            for (int other : new int[] {4, 16}) {
                Due.no("land(" + side + ", " + other + ")", d.land(side, other));
                Due.no("land(" + other + ", " + side + ")", d.land(other, side));
            }
        }
        Due.no("land(3, 3)", d.land(3, 3));
        Due.no("land(17, 17)", d.land(17, 17));
        Due.is("W stays", d.count(0), 7);
        Due.is("H stays", d.count(1), 9);
    }

    private static void cellsFromNoughtOn() {
        Due.sentence("x, y from 0 on");
        for (int[] side : new int[][] {{4, 4}, {4, 16}, {16, 4}, {5, 9}, {16, 16}}) {
            int w = side[0];
            int h = side[1];
            FrontierDesk d = land(w, h);
            int[][] beyond = {{-1, 0}, {0, -1}, {w, 0}, {0, h}, {w, h}, {w - 1, h}, {w, h - 1}, {-1, -1}, {LEAST, 0},
                {0, LEAST}, {MOST, 0}, {0, MOST}};
            for (int[] c : beyond) {
                Due.is("post at " + Arrays.toString(c), d.post(c[0], c[1], 1, 1, true, 0), NONE);
            }
            int[][] corners = {{0, 0}, {w - 1, 0}, {0, h - 1}, {w - 1, h - 1}};
            for (int i = 0; i < 4; i++) {
                Due.is("post at a corner", d.post(corners[i][0], corners[i][1], 1, 1, true, 0), i);
                Due.is("its x", d.look(i, 0), corners[i][0]);
                Due.is("its y", d.look(i, 1), corners[i][1]);
            }
        }
    }

    private static void heights() {
        Due.sentence("each a HEIGHT 0 .. 999");
        FrontierDesk d = new FrontierDesk();
        d.post(0, 0, 1, 1, true, 0);
        d.post(3, 3, 1, 1, true, 0);
        Due.yes("the greatest", d.ground(3, 0, 3, 3, 999, 0));
        Due.is("999 up", d.way(0, 1), 60 + 2 * 999);
        Due.is("999 down", d.way(1, 0), 60 + 999);
        for (int height : new int[] {LEAST, -999, -1, 1000, 1001, 65536, MOST}) {
            Due.no("HEIGHT " + height, d.ground(0, 0, 3, 3, height, 0));
        }
        Due.is("as before: up", d.way(0, 1), 60 + 2 * 999);
        Due.is("as before: down", d.way(1, 0), 60 + 999);
        Due.yes("one less", d.ground(3, 0, 3, 3, 998, 0));
        Due.is("998 up", d.way(0, 1), 60 + 2 * 998);
        Due.yes("the least", d.ground(3, 0, 3, 3, 0, 0));
        Due.is("flat", d.way(0, 1), 60);
    }

    private static void woods() {
        Due.sentence("a WOOD 0 .. 3 (0 at first)");
        FrontierDesk d = new FrontierDesk();
        d.post(0, 0, 1, 1, true, 0);
        d.post(3, 3, 1, 1, true, 0);
        d.trees(1, 60, 60);
        d.trees(2, 60, 60);
        d.trees(3, 60, 60);
        Due.is("0 at first", d.way(0, 1), 60);
        Due.is("no TREES at first", d.sight(0, 1, 0, 0), 2);
        for (int wood = 0; wood <= 3; wood++) {
            Due.yes("WOOD " + wood, d.ground(0, 0, 3, 3, 0, wood));
            Due.is("way over WOOD " + wood, d.way(0, 1), 60 + 6 * 5 * wood);
        }
        for (int wood : new int[] {LEAST, -3, -1, 4, 5, 256, MOST}) {
            Due.no("WOOD " + wood, d.ground(0, 0, 3, 3, 0, wood));
        }
        Due.is("as before", d.way(0, 1), 60 + 6 * 15);
    }

    private static void treesOfWoods() {
        Due.sentence("TREES of a WOOD: LOW .. HIGH metres, 0 .. 60 (0 .. 0 at first; of WOOD 0 always)");
        for (int wood = 1; wood <= 3; wood++) {
            // The CELL between is just as high as the eyes.
            FrontierDesk d = pair(0, 0, 2, 0);
            d.ground(1, 0, 1, 0, 1, wood);
            Due.is("0 .. 0 at first", d.sight(0, 1, 0, 0), 2);
            Due.yes("the least", d.trees(wood, 0, 0));
            Due.is("0 .. 0", d.sight(0, 1, 0, 0), 2);
            Due.yes("LOW the least, HIGH the greatest", d.trees(wood, 0, 60));
            Due.is("0 .. 60", d.sight(0, 1, 0, 0), 1);
            Due.yes("the greatest", d.trees(wood, 60, 60));
            Due.is("60 .. 60", d.sight(0, 1, 0, 0), 0);
            Due.is("60 above the eyes at k 1 want 120", d.raise(0, 1), 120);
            for (int[] t : new int[][] {{-1, 0}, {-1, 60}, {0, 61}, {61, 61}, {0, -1}, {-1, -1}, {1, 0}, {60, 59},
                {LEAST, 0}, {0, MOST}, {LEAST, MOST}, {0, LEAST}, {MOST, 60}}) {
                Due.no("trees " + Arrays.toString(t), d.trees(wood, t[0], t[1]));
            }
            Due.is("as before", d.raise(0, 1), 120);
            Due.is("LOW as before", d.block(0, 1, false), 1);
        }
        FrontierDesk d = pair(0, 0, 2, 0);
        d.ground(1, 0, 1, 0, 1, 0);
        Due.no("of WOOD 0", d.trees(0, 0, 0));
        Due.no("of WOOD 0", d.trees(0, 60, 60));
        Due.no("of WOOD 4", d.trees(4, 0, 0));
        Due.no("of WOOD -1", d.trees(-1, 0, 0));
        Due.no("of the least WOOD", d.trees(LEAST, 0, 0));
        Due.no("of the greatest WOOD", d.trees(MOST, 0, 0));
        d.trees(1, 60, 60);
        d.trees(2, 60, 60);
        d.trees(3, 60, 60);
        Due.is("WOOD 0 has none", d.sight(0, 1, 0, 0), 2);
    }

    private static void bends() {
        Due.sentence("BEND 0 .. 999 (0 at first)");
        FrontierDesk d = pair(0, 0, 2, 0);
        d.ground(1, 0, 1, 0, 1, 0);
        Due.is("0 at first: just as high as the eyes", d.sight(0, 1, 0, 0), 2);
        Due.yes("bend(1)", d.bend(1));
        Due.is("a thousandth above", d.sight(0, 1, 0, 0), 0);
        Due.yes("the least", d.bend(0));
        Due.is("none", d.sight(0, 1, 0, 0), 2);
        d.ground(1, 0, 1, 0, 0, 0);
        Due.yes("the greatest", d.bend(999));
        Due.is("0.999 at the middle", d.sight(0, 1, 0, 0), 2);
        d.ground(1, 0, 1, 0, 1, 0);
        Due.is("1.999 at the middle", d.raise(0, 1), 2);
        for (int n : new int[] {LEAST, -999, -1, 1000, 1001, 65536, MOST}) {
            Due.no("bend(" + n + ")", d.bend(n));
        }
        Due.is("as before", d.raise(0, 1), 2);
    }

    private static void hazes() {
        Due.sentence("HAZE of a MONTH 0 .. 11 and a KIND of sign (0 smoke, 1 fire): WORST .. BEST, 0 .. 30 CELLS "
                + "(30 .. 30 at first)");
        for (int season = 0; season < 24; season++) {
            FrontierDesk d = pair(0, 0, 15, 15);
            Due.is("at first", d.sight(0, 1, season / 2, season % 2), 2);
            Due.yes("the least", d.haze(season / 2, season % 2, 0, 0));
            for (int other = 0; other < 24; other++) {
                Due.is("season " + other, d.sight(0, 1, other / 2, other % 2), other == season ? 0 : 2);
            }
            Due.yes("0 .. 30", d.haze(season / 2, season % 2, 0, 30));
            Due.is("at BEST", d.sight(0, 1, season / 2, season % 2), 1);
            Due.yes("the greatest", d.haze(season / 2, season % 2, 30, 30));
            Due.is("at WORST", d.sight(0, 1, season / 2, season % 2), 2);
        }
        FrontierDesk d = pair(0, 0, 1, 0);
        d.haze(0, 0, 0, 1);
        int[][] wrong = {{-1, 0, 1, 1}, {12, 0, 1, 1}, {0, -1, 1, 1}, {0, 2, 1, 1}, {0, 0, -1, 1}, {0, 0, -1, -1},
            {0, 0, 1, 31}, {0, 0, 31, 31}, {0, 0, 2, 1}, {0, 0, 30, 29}, {LEAST, 0, 1, 1}, {MOST, 0, 1, 1},
            {0, LEAST, 1, 1}, {0, MOST, 1, 1}, {0, 0, LEAST, 1}, {0, 0, 1, MOST}, {0, 0, LEAST, MOST}};
        for (int[] w : wrong) {
            Due.no("haze" + Arrays.toString(w), d.haze(w[0], w[1], w[2], w[3]));
        }
        Due.is("as before: not even a neighbour at 0 CELLS, but at 1", d.sight(0, 1, 0, 0), 1);
    }

    private static void mostPosts() {
        Due.sentence("POSTS, at most 12, numbered from 0 on");
        FrontierDesk d = new FrontierDesk();
        Due.is("none at first", d.count(2), 0);
        for (int p = 0; p < 12; p++) {
            Due.is("post " + p, d.post(p % 4, p / 4, 1, 1, p % 3 > 0, 0), p);
            Due.is("POSTS", d.count(2), p + 1);
        }
        Due.is("a 13th", d.post(0, 3, 1, 1, true, 0), NONE);
        d.dug(0, false);
        Due.is("a 13th, though one is EMPTY", d.post(0, 3, 1, 1, true, 0), NONE);
        Due.is("POSTS", d.count(2), 12);
        Due.is("no POST 12", d.look(12, 0), NONE);
        Due.is("the twelfth", d.look(11, 0), 3);
        d.land(4, 4);
        Due.is("from 0 on again", d.post(0, 3, 1, 1, true, 0), 0);
    }

    private static void anotherCellEach() {
        Due.sentence("each at another CELL");
        FrontierDesk d = new FrontierDesk();
        d.post(1, 2, 1, 1, true, 0);
        d.post(2, 2, 1, 1, false, 0);
        Due.is("at a FOUND one's", d.post(1, 2, 2, 2, false, 0), NONE);
        Due.is("at a SUPPOSED one's", d.post(2, 2, 2, 2, true, 0), NONE);
        Due.is("x and y changed over", d.post(2, 1, 1, 1, true, 0), 2);
        Due.is("the last one's", d.post(2, 1, 1, 1, true, 0), NONE);
        Due.is("no number is lost", d.post(0, 0, 1, 1, true, 0), 3);
        d.land(4, 4);
        Due.is("another LAND has none", d.post(1, 2, 1, 1, true, 0), 0);
    }

    private static void towersAndMen() {
        Due.sentence("a TOWER of LOW .. HIGH metres (1 .. 40), MEN 0 .. 50");
        FrontierDesk d = new FrontierDesk();
        int[][] wrong = {{0, 1, 0}, {0, 0, 0}, {-1, 1, 0}, {1, 0, 0}, {2, 1, 0}, {40, 39, 0}, {1, 41, 0}, {41, 41, 0},
            {1, 1, -1}, {1, 1, 51}, {LEAST, 1, 0}, {1, MOST, 0}, {LEAST, MOST, 0}, {MOST, LEAST, 0}, {1, 1, LEAST},
            {1, 1, MOST}};
        for (int[] w : wrong) {
            Due.is("LOW, HIGH, MEN " + Arrays.toString(w), d.post(0, 0, w[0], w[1], true, w[2]), NONE);
        }
        Due.is("none came", d.count(2), 0);
        int[][] right = {{1, 1, 0}, {40, 40, 50}, {1, 40, 0}, {2, 39, 1}, {7, 7, 49}};
        for (int p = 0; p < right.length; p++) {
            int[] r = right[p];
            Due.is("LOW, HIGH, MEN " + Arrays.toString(r), d.post(p % 4, p / 4, r[0], r[1], true, r[2]), p);
            Due.is("LOW", d.look(p, 5), r[0]);
            Due.is("HIGH", d.look(p, 6), r[1]);
            Due.is("MEN", d.look(p, 3), r[2]);
        }
    }

    private static void emptyOnes() {
        Due.sentence("EMPTY (it was SUPPOSED and dug for nothing: it is a POST no more, but keeps its number and CELL)");
        FrontierDesk d = new FrontierDesk();
        d.post(0, 0, 1, 1, true, 0);
        d.post(1, 0, 1, 1, false, 5);
        d.post(2, 0, 1, 1, true, 0);
        Due.rules(d, "word a 1;");
        Due.yes("dug for nothing", d.dug(1, false));
        Due.is("EMPTY", d.look(1, 2), 2);
        Due.is("its number is kept", d.post(3, 0, 1, 1, true, 0), 3);
        Due.is("its CELL is kept", d.post(1, 0, 1, 1, true, 0), NONE);
        Due.is("x", d.look(1, 0), 1);
        Due.is("y", d.look(1, 1), 0);
        Due.is("no POST: sight", d.sight(0, 1, 0, 0), NONE);
        Due.is("no POST: block", d.block(1, 0, true), NONE);
        Due.is("no POST: raise", d.raise(1, 0), NONE);
        Due.is("no POST: way", d.way(1, 0), NONE);
        Due.no("no POST: store", d.store(1, 1));
        Due.is("no POST: send", d.send(1, 0, 0, 0, 9), NONE);
        Due.no("no POST: dug", d.dug(1, true));
        Due.is("no POST: supply", d.supply(1), 0);
        Due.is("no POST: supplied", d.supplied(1, 1), NONE);
        Due.is("it doesn't stand between the others", d.sight(0, 2, 0, 0), 2);
    }

    private static void linesBetweenNeighbours() {
        Due.sentence("At each k of 1 .. N - 1");
        for (int dx = -1; dx <= 1; dx++) {
            for (int dy = -1; dy <= 1; dy++) {
                if (dx == 0 && dy == 0) {
                    continue;
                }
                FrontierDesk d = pair(5, 5, 5 + dx, 5 + dy);
                d.ground(0, 0, 15, 15, 999, 3);
                d.ground(5, 5, 5, 5, 0, 3);
                d.trees(3, 60, 60);
                d.bend(999);
                Due.is("N of 1: no CELL between", d.sight(0, 1, 0, 0), 2);
                Due.is("block", d.block(0, 1, true), NONE);
                Due.is("raise", d.raise(0, 1), 0);
                Due.is("block back", d.block(1, 0, true), NONE);
            }
        }
        FrontierDesk d = pair(5, 5, 7, 5);
        d.ground(0, 0, 15, 15, 999, 0);
        d.ground(5, 5, 7, 5, 0, 0);
        Due.is("N of 2: only the one between", d.sight(0, 1, 0, 0), 2);
        d.ground(6, 5, 6, 5, 2, 0);
        Due.is("it is looked at", d.block(0, 1, false), 16 * 5 + 6);
    }

    /** Each CELL of a LINE over the whole LAND alone is found, and the POSTS' own TREES are not. */
    private static void everyCellBetween() {
        Due.sentence("N is the greater of how far x and y have to go");
        int[][] ends = {{0, 0, 15, 0}, {15, 3, 0, 3}, {0, 0, 0, 15}, {7, 15, 7, 0}, {0, 0, 15, 15}, {15, 0, 0, 15},
            {0, 2, 15, 4}, {3, 15, 1, 0}};
        for (int[] e : ends) {
            FrontierDesk d = pair(e[0], e[1], e[2], e[3]);
            d.trees(3, 60, 60);
            d.ground(e[0], e[1], e[0], e[1], 0, 3);
            d.ground(e[2], e[3], e[2], e[3], 0, 3);
            Due.is("the POSTS' own CELLS don't count", d.block(0, 1, true), NONE);
            for (int k = 1; k < 15; k++) {
                int x = nearest(e[0], e[2], k, 15);
                int y = nearest(e[1], e[3], k, 15);
                d.ground(x, y, x, y, 2, 0);
                Due.is(Arrays.toString(e) + " at k " + k, d.block(0, 1, true), 16 * y + x);
                d.ground(x, y, x, y, 1, 0);
            }
            Due.is("all as high as the eyes", d.block(0, 1, true), NONE);
        }
    }

    /** The whole number that is nearest; of two the greater: sought, not divided. */
    private static int nearest(int from, int to, int k, int n) {
        int best = -1;
        for (int c = 0; c < 16; c++) {
            int off = Math.abs(c * n - from * n - (to - from) * k);
            int bestOff = Math.abs(best * n - from * n - (to - from) * k);
            best = off <= bestOff ? c : best;
        }
        return best;
    }

    private static void halvesGoUpward() {
        Due.sentence("to the nearest whole number (a half upward), y likewise");
        halfAt(0, 0, 2, 1, 1, 1, 1);
        halfAt(2, 1, 0, 0, 1, 1, 1);
        halfAt(0, 1, 2, 0, 1, 1, 1);
        halfAt(2, 0, 0, 1, 1, 1, 1);
        halfAt(0, 0, 1, 2, 1, 1, 1);
        halfAt(1, 2, 0, 0, 1, 1, 1);
        halfAt(1, 0, 0, 2, 1, 1, 1);
        halfAt(0, 2, 1, 0, 1, 1, 1);
        halfAt(15, 15, 13, 14, 1, 14, 15);
        halfAt(0, 0, 3, 1, 1, 1, 0);
        halfAt(0, 0, 3, 1, 2, 2, 1);
        halfAt(3, 1, 0, 0, 1, 2, 1);
        halfAt(3, 1, 0, 0, 2, 1, 0);
        halfAt(0, 0, 6, 1, 2, 2, 0);
        halfAt(0, 0, 6, 1, 3, 3, 1);
        halfAt(6, 1, 0, 0, 3, 3, 1);
        halfAt(0, 0, 14, 7, 13, 13, 7);
        halfAt(0, 0, 14, 7, 1, 1, 1);
        halfAt(14, 7, 0, 0, 1, 13, 7);
        for (int x = 0; x < 16; x++) {
            for (int y = 0; y < 16; y++) {
                allAlong(0, 0, x, y);
                allAlong(x, y, 0, 0);
                allAlong(15, 0, x, y);
                allAlong(x, y, 8, 7);
            }
        }
    }

    private static void halfAt(int ax, int ay, int bx, int by, int k, int x, int y) {
        FrontierDesk d = pair(ax, ay, bx, by);
        d.ground(x, y, x, y, 999, 0);
        Due.is("(" + ax + ", " + ay + ") to (" + bx + ", " + by + ") at k " + k, d.block(0, 1, true), 16 * y + x);
    }

    private static void allAlong(int ax, int ay, int bx, int by) {
        int n = Math.max(Math.abs(bx - ax), Math.abs(by - ay));
        if (n < 2) {
            return;
        }
        FrontierDesk d = pair(ax, ay, bx, by);
        for (int k = 1; k < n; k++) {
            int x = nearest(ax, bx, k, n);
            int y = nearest(ay, by, k, n);
            d.ground(x, y, x, y, 2, 0);
            Due.is("(" + ax + ", " + ay + ") to (" + bx + ", " + by + ") at k " + k, d.block(0, 1, true), 16 * y + x);
            d.ground(x, y, x, y, 0, 0);
        }
    }

    private static void notAboveExactly() {
        Due.sentence("are together not above the line from eye to eye: (EYE of a times (N - k) and EYE of b times k) "
                + "by N; all this exactly");
        FrontierDesk d = land(16, 4);
        d.post(0, 0, 1, 1, true, 0);
        d.post(15, 0, 16, 16, true, 0);
        d.ground(1, 0, 1, 0, 2, 0);
        Due.is("2 is just 14 times 1 and 16 by 15", d.sight(0, 1, 0, 0), 2);
        Due.is("back", d.sight(1, 0, 0, 0), 2);
        d.post(15, 1, 15, 15, true, 0);
        d.post(0, 1, 1, 1, true, 0);
        d.ground(1, 1, 1, 1, 2, 0);
        Due.is("a fifteenth too high", d.block(3, 2, true), 17);
        Due.is("back", d.block(2, 3, true), 17);
        d.post(0, 2, 1, 1, true, 0);
        d.post(15, 2, 16, 16, true, 0);
        for (int k = 1; k < 15; k++) {
            d.ground(k, 2, k, 2, 1 + k, 0);
        }
        Due.is("just along the line all the way", d.sight(4, 5, 0, 0), 2);
        d.ground(14, 2, 14, 2, 16, 0);
        Due.is("one metre above at the last", d.block(4, 5, true), 46);
    }

    private static void bendExactly() {
        Due.sentence("BEND times k times (N - k) by 1000");
        FrontierDesk d = land(16, 4);
        d.post(0, 0, 1, 1, true, 0);
        d.post(2, 0, 2, 2, true, 0);
        d.ground(1, 0, 1, 0, 1, 0);
        d.bend(500);
        Due.is("1 and a half is not above 1 and a half", d.sight(0, 1, 0, 0), 2);
        d.bend(501);
        Due.is("a thousandth above", d.sight(0, 1, 0, 0), 0);
        d.post(0, 1, 14, 14, true, 0);
        d.post(15, 1, 14, 14, true, 0);
        d.bend(250);
        Due.is("7 times 8 by 4 is 14", d.sight(2, 3, 0, 0), 2);
        d.bend(251);
        Due.is("56 thousandths above at k 7 first", d.block(2, 3, true), 16 + 7);
        d.bend(999);
        Due.is("14 times 0.999 is not above 14 at k 1, but 26 times is", d.block(2, 3, false), 16 + 2);
        FrontierDesk e = land(16, 4);
        e.ground(0, 0, 0, 0, 15, 0);
        e.ground(15, 0, 15, 0, 17, 0);
        e.post(0, 0, 40, 40, true, 0);
        e.post(15, 0, 40, 40, true, 0);
        e.bend(999);
        Due.is("56 times 0.999 is above 839 fifteenths at k 7", e.block(0, 1, true), 7);
        Due.is("but not above 841 fifteenths at k 7 from the other side, but at the next", e.block(1, 0, true), 7);
        e.ground(0, 0, 0, 0, 16, 0);
        Due.is("nor above 847 fifteenths", e.block(0, 1, true), NONE);
    }

    private static void eyes() {
        Due.sentence("An EYE: HEIGHT of the POST's CELL and its TOWER");
        FrontierDesk d = land(16, 4);
        d.post(0, 0, 40, 40, true, 0);
        d.post(2, 0, 40, 40, true, 0);
        d.ground(0, 0, 2, 0, 999, 3);
        d.trees(3, 40, 40);
        Due.is("999 and 40 between 999 and 40", d.sight(0, 1, 0, 0), 2);
        d.trees(3, 40, 41);
        Due.is("999 and 41", d.sight(0, 1, 0, 0), 1);
        d.trees(3, 60, 60);
        Due.is("999 and 60: 20 above", d.raise(0, 1), 40);
        d.ground(0, 0, 0, 0, 0, 0);
        Due.is("a's HEIGHT 0", d.raise(0, 1), 40 + 999);
        Due.is("b's HEIGHT 0", d.raise(1, 0), 40 + 999);
    }

    private static void sureReach() {
        Due.sentence("dx times dx and dy times dy together are at most WORST times WORST");
        int[][] ends = {{3, 4, 5}, {4, 3, 5}, {5, 0, 5}, {0, 5, 5}, {5, 1, 6}, {1, 5, 6}, {5, 12, 13}, {15, 8, 17},
            {15, 15, 22}, {1, 0, 1}, {0, 1, 1}, {1, 1, 2}, {15, 0, 15}};
        for (int[] e : ends) {
            FrontierDesk d = pair(0, 0, e[0], e[1]);
            d.haze(5, 1, e[2], e[2]);
            Due.is(Arrays.toString(e) + " there", d.sight(0, 1, 5, 1), 2);
            Due.is(Arrays.toString(e) + " back", d.sight(1, 0, 5, 1), 2);
            d.haze(5, 1, e[2] - 1, e[2]);
            Due.is(Arrays.toString(e) + " one less at WORST", d.sight(0, 1, 5, 1), 1);
            d.haze(5, 1, e[2] - 1, e[2] - 1);
            Due.is(Arrays.toString(e) + " one less at BEST", d.sight(0, 1, 5, 1), 0);
        }
    }

    private static void mayIfNotSure() {
        Due.sentence("MAY (1): if that isn't so, but it is with LOW TREES, both TOWERS HIGH, and BEST. Else 0.");
        FrontierDesk d = land(16, 4);
        d.post(0, 0, 1, 2, true, 0);
        d.post(2, 0, 1, 2, true, 0);
        d.trees(1, 0, 1);
        d.haze(0, 0, 1, 2);
        d.ground(1, 0, 1, 0, 0, 1);
        Due.is("OPEN for SURE, within BEST alone", d.sight(0, 1, 0, 0), 1);
        Due.is("OPEN for SURE, within WORST", d.sight(0, 1, 1, 0), 2);
        d.ground(1, 0, 1, 0, 1, 1);
        Due.is("HIGH TREES are above, within BEST alone", d.sight(0, 1, 0, 0), 1);
        Due.is("HIGH TREES are above, within WORST", d.sight(0, 1, 1, 0), 1);
        d.ground(1, 0, 1, 0, 2, 1);
        Due.is("LOW TREES just as high as HIGH TOWERS", d.sight(0, 1, 1, 0), 1);
        d.ground(1, 0, 1, 0, 3, 1);
        Due.is("above HIGH TOWERS", d.sight(0, 1, 1, 0), 0);
        d.ground(1, 0, 1, 0, 0, 0);
        d.haze(0, 0, 0, 1);
        Due.is("beyond BEST", d.sight(0, 1, 0, 0), 0);
        bothTowers(1, 1, 1, 3, 1, 2);
        bothTowers(1, 3, 1, 1, 1, 2);
        bothTowers(2, 2, 2, 2, 2, 2);
        bothTowers(1, 1, 1, 2, 0, 2);
    }

    /** TOWERS of a and b, and what SIGHT over a CELL of 2 metres, and then of the other HEIGHT, is. */
    private static void bothTowers(int aLow, int aHigh, int bLow, int bHigh, int over2, int overOne) {
        FrontierDesk d = land(16, 4);
        d.post(0, 0, aLow, aHigh, true, 0);
        d.post(2, 0, bLow, bHigh, true, 0);
        d.ground(1, 0, 1, 0, 2, 0);
        Due.is("over 2", d.sight(0, 1, 0, 0), over2);
        Due.is("over 2, back", d.sight(1, 0, 0, 0), over2);
        d.ground(1, 0, 1, 0, 1, 0);
        Due.is("over 1", d.sight(0, 1, 0, 0), overOne);
    }

    private static void linkedBothWays() {
        Due.sentence("They are LINKED as well as the lesser of SIGHT there and back says.");
        int[] seen = new int[3];
        for (int i = 0; i < 256; i++) {
            FrontierDesk d = land(16, 16);
            int x = i % 16;
            int y = i / 16;
            d.post(8, 7, 5, 9, true, 0);
            if (d.post(x, y, 5, 9, true, 0) == NONE) {
                continue;
            }
            d.note(0, 0, 9);
            d.note(0, 1, 9);
            d.ground(0, 0, 15, 4, i % 7, 0);
            d.ground(5, 0, 6, 15, 4 + (3 * x + y) % 8, 0);
            d.ground(10, 8, 12, 12, i % 13, 0);
            int link = Math.min(d.sight(0, 1, 0, 0), d.sight(1, 0, 0, 0));
            seen[link]++;
            Due.is("GROUPS at LEVEL 1", d.groups(0, 0, 9, 1), link >= 1 ? 1 : 2);
            Due.is("GROUPS at LEVEL 2", d.groups(0, 0, 9, 2), link == 2 ? 1 : 2);
        }
        Due.yes("some of each: " + Arrays.toString(seen), seen[0] > 9 && seen[1] > 9 && seen[2] > 9);
    }

    private static void raises() {
        Due.sentence("RAISE of a to b: the fewest metres by which a's TOWER (LOW) would have to be higher so that the "
                + "LINE from a to b is OPEN with HIGH TREES (b's TOWER LOW; without HAZE).");
        FrontierDesk d = land(16, 4);
        d.post(0, 0, 1, 40, true, 0);
        d.post(15, 0, 1, 40, true, 0);
        d.haze(0, 0, 0, 0);
        Due.is("OPEN", d.raise(0, 1), 0);
        d.ground(1, 0, 14, 0, 1, 0);
        Due.is("just OPEN", d.raise(0, 1), 0);
        d.ground(1, 0, 1, 0, 2, 0);
        Due.is("15 fourteenths at k 1", d.raise(0, 1), 2);
        Due.is("from the other side 15 at k 14", d.raise(1, 0), 15);
        d.ground(1, 0, 1, 0, 15, 0);
        Due.is("14 above are just 15", d.raise(0, 1), 15);
        d.ground(1, 0, 1, 0, 0, 1);
        d.trees(1, 0, 15);
        Due.is("HIGH TREES", d.raise(0, 1), 15);
        d.ground(14, 0, 14, 0, 999, 1);
        d.trees(1, 60, 60);
        d.bend(999);
        // 999 and 60 and 13.986 are 1072.986; 15 times that without 14 metres of b's are 16080.79.
        Due.is("the greatest there is", d.raise(0, 1), 16080);
        FrontierDesk e = pair(0, 0, 2, 0);
        e.bend(999);
        e.ground(1, 0, 1, 0, 1, 0);
        Due.is("0.999 above are 1.998", e.raise(0, 1), 2);
        e.bend(1);
        Due.is("a thousandth above is 0.002", e.raise(0, 1), 1);
    }

    // ---- Promises

    private static void promise1NewObject() {
        Due.sentence("FrontierDesk(): 4 by 4 CELLS, no POSTS, NOTES, RULES, MESSAGE; an empty TAPE.");
        FrontierDesk d = new FrontierDesk();
        int[] counts = {4, 4, 0, 0, 0, 0, 2, 1};
        for (int what = 0; what < counts.length; what++) {
            Due.is("count(" + what + ")", d.count(what), counts[what]);
        }
        Due.is("no POST 0", d.look(0, 2), NONE);
        Due.is("no NOTE 0 to STRIKE", d.strike(0), NONE);
        Due.is("no WORD to send", d.send(0, 0, 0, 0, 0), NONE);
        Due.is("no MESSAGE", d.sent(0), NONE);
        Due.is("nothing JOINED", d.joined(0, 0), NONE);
        Due.is("no supply", d.supplied(0, 0), NONE);
        Due.is("no byte on the TAPE", d.rules(1), -2);
        Due.is("the first twenty", d.feed(0, 0, 0, 0, 0), 20);
        for (int i = 0; i < 16; i++) {
            FrontierDesk e = new FrontierDesk();
            Due.is("each of 16 CELLS", e.post(i % 4, i / 4, 1, 1, true, 0), 0);
        }
        Due.no("no fifth column", new FrontierDesk().ground(4, 0, 4, 0, 0, 0));
        Due.no("no fifth row", new FrontierDesk().ground(0, 4, 0, 4, 0, 0));
    }

    private static void promise2AnotherLand() {
        Due.sentence("Another LAND: all HEIGHTS, WOODS 0, no POSTS, NOTES, MESSAGE, nothing JOINED (TREES, BEND, HAZE, "
                + "RULES stay): true");
        for (int[] side : new int[][] {{16, 6}, {4, 4}, {16, 16}}) {
            FrontierDesk d = Story.told();
            Due.yes("land", d.land(side[0], side[1]));
            Due.is("no POSTS", d.count(2), 0);
            Due.is("no POST 0", d.look(0, 0), NONE);
            Due.is("no NOTES", d.count(3), 0);
            Due.is("no NOTE to STRIKE", d.strike(0), NONE);
            Due.is("no MESSAGE: sent", d.sent(0), NONE);
            Due.is("no MESSAGE: heard", d.heard(0, 0, 0), NONE);
            Due.is("nothing JOINED", d.joined(0, 0), NONE);
            Due.is("nothing to DIG", d.dig(), NONE);
            Due.is("WORDS stay", d.count(4), Story.WORDS);
            Due.is("orders stay", d.count(5), 3);
            Due.is("minutes stay", d.count(6), 3);
            Due.is("look stays", d.count(7), 2);
            Due.is("the TAPE stays", d.feed(0, 0, 0, 0, 0), 40);
            Due.is("POST 0 again", d.post(0, 0, 5, 5, true, 0), 0);
            Due.is("POST 1 again", d.post(3, 0, 5, 5, true, 0), 1);
            Due.is("flat, no WOOD", d.way(0, 1), 30);
            Due.is("nothing HEARD", d.heard(0, 0, 0), NONE);
            Due.is("no years", d.years(0, 0, 2), 0);
            Due.is("RULES are still good", d.send(0, 0, 0, 0, 9), 2);
            d.ground(1, 0, 1, 0, 0, 2);
            Due.is("TREES of 6 stay", d.sight(0, 1, 1, 0), 1);
            d.ground(1, 0, 2, 0, 5, 0);
            Due.is("BEND of 20 stays", d.block(0, 1, true), 1);
            d.ground(1, 0, 2, 0, 0, 0);
            Due.is("another KIND", d.sight(0, 1, 3, 0), 2);
            Due.is("HAZE of 2 stays", d.sight(0, 1, 3, 1), 1);
        }
        everyCellIsNew();
        nothingIsKept();
    }

    /** What was asked of the old LAND's NOTES must not be answered again of the new one's. */
    private static void nothingIsKept() {
        FrontierDesk d = land(4, 4);
        d.post(0, 0, 1, 1, true, 0);
        d.note(0, 0, 100);
        d.note(0, 0, 200);
        Due.is("no QUARREL by 2", d.quarrel(), NONE);
        Due.is("years by 2", d.years(0, 2, 2), 200);
        d.land(4, 4);
        d.post(0, 0, 1, 1, true, 0);
        d.note(0, 0, 50);
        d.note(1, 0, 60);
        Due.is("other years by 2", d.years(0, 2, 2), 60);
        d.land(4, 4);
        d.post(0, 0, 1, 1, true, 0);
        d.note(0, 0, 50);
        d.note(1, 0, 49);
        Due.is("a QUARREL by 2", d.quarrel(), 2);
        d.land(4, 4);
        d.post(0, 0, 1, 1, true, 0);
        Due.is("no QUARREL by 0", d.quarrel(), NONE);
        Due.is("years by 0", d.years(0, 0, 3), 500);
    }

    private static void everyCellIsNew() {
        for (int y = 0; y < 16; y++) {
            FrontierDesk d = land(16, 16);
            d.ground(0, 0, 15, 15, 999, 3);
            d.land(4, 4);
            d.land(16, 16);
            d.post(0, y, 1, 1, true, 0);
            d.post(15, y, 1, 1, true, 0);
            Due.is("row " + y, d.way(0, 1), 150);
            Due.is("row " + y + " back", d.way(1, 0), 150);
        }
    }

    private static void promise2Refused() {
        Due.sentence("false: no such W, H.");
        int[][] wrong = {{3, 4}, {4, 3}, {17, 16}, {16, 17}, {0, 0}, {-5, 5}, {5, -5}, {LEAST, 4}, {4, MOST}};
        for (int[] w : wrong) {
            Story.refuses("land" + Arrays.toString(w), d -> Story.truth(d.land(w[0], w[1])), 0);
        }
    }

    /** Ways between all CELLS beside, above and below each other tell each HEIGHT and WOOD of 4 by 4. */
    private static void groundIs(int[] g, int height, int wood) {
        for (int top = 0; top <= 1; top++) {
            FrontierDesk d = new FrontierDesk();
            Due.yes("ground", d.ground(g[0], g[1], g[2], g[3], height, wood));
            for (int i = 0; i < 12; i++) {
                d.post(i % 4, top + i / 4, 1, 1, true, 0);
            }
            for (int i = 0; i < 12; i++) {
                for (int j : new int[] {i + 1, i + 4}) {
                    if (j < 12 && (j == i + 4 || j % 4 != 0)) {
                        boolean from = within(g, i % 4, top + i / 4);
                        boolean to = within(g, j % 4, top + j / 4);
                        int up = (to ? height : 0) - (from ? height : 0);
                        Due.is("way " + i + " to " + j + " of " + Arrays.toString(g), d.way(i, j),
                                10 + Math.max(2 * up, -up) + (to ? 5 * wood : 0));
                    }
                }
            }
        }
    }

    private static boolean within(int[] g, int x, int y) {
        return g[0] <= x && x <= g[2] && g[1] <= y && y <= g[3];
    }

    private static void promise3Cells() {
        Due.sentence("CELLS x0 .. x1, y0 .. y1 have this HEIGHT and WOOD: true");
        int[][] parts = {{0, 0, 0, 0}, {3, 3, 3, 3}, {3, 0, 3, 0}, {0, 3, 0, 3}, {1, 2, 1, 2}, {0, 0, 3, 0}, {0, 0, 0, 3},
            {0, 3, 3, 3}, {3, 0, 3, 3}, {0, 0, 3, 3}, {1, 1, 2, 2}, {1, 0, 2, 3}, {0, 2, 3, 2}, {2, 1, 3, 3}};
        for (int[] g : parts) {
            groundIs(g, 1, 0);
            groundIs(g, 0, 1);
        }
        FrontierDesk d = land(5, 7);
        d.post(0, 0, 1, 1, true, 0);
        d.post(4, 6, 1, 1, true, 0);
        Due.yes("all of 5 by 7", d.ground(0, 0, 4, 6, 3, 1));
        Due.is("over WOOD 1", d.way(0, 1), 10 * 15);
        Due.yes("again", d.ground(0, 0, 4, 6, 3, 2));
        Due.is("over WOOD 2", d.way(0, 1), 10 * 20);
    }

    private static void promise3Refused() {
        Due.sentence("false, and nothing happens: no such ones.");
        int[][] wrong = {{-1, 0, 1, 1, 9, 1}, {0, -1, 1, 1, 9, 1}, {0, 0, 16, 1, 9, 1}, {0, 0, 1, 6, 9, 1},
            {2, 0, 1, 1, 9, 1}, {0, 2, 1, 1, 9, 1}, {15, 5, 0, 0, 9, 1}, {16, 0, 16, 0, 9, 1}, {0, 6, 0, 6, 9, 1},
            {0, 0, 15, 5, -1, 1}, {0, 0, 15, 5, 1000, 1}, {0, 0, 15, 5, 9, -1}, {0, 0, 15, 5, 9, 4},
            {-2, 0, -1, 0, 9, 1}, {LEAST, 0, 15, 5, 9, 1}, {0, LEAST, 15, 5, 9, 1}, {0, 0, MOST, 5, 9, 1},
            {0, 0, 15, MOST, 9, 1}, {LEAST, LEAST, MOST, MOST, 9, 1}, {0, 0, 15, 5, LEAST, 1}, {0, 0, 15, 5, 9, MOST}};
        for (int[] w : wrong) {
            Story.refuses("ground" + Arrays.toString(w),
                    d -> Story.truth(d.ground(w[0], w[1], w[2], w[3], w[4], w[5])), 0);
        }
        FrontierDesk d = land(5, 7);
        Due.no("x beyond 5", d.ground(0, 0, 5, 4, 0, 0));
        Due.no("y beyond 7", d.ground(0, 0, 4, 7, 0, 0));
        Due.yes("y up to 6", d.ground(0, 6, 4, 6, 0, 0));
    }

    private static void promise4Refused() {
        Due.sentence("TREES of a WOOD 1 .. 3: true; false: no such ones.");
        int[][] wrong = {{0, 0, 0}, {0, 1, 2}, {4, 1, 2}, {-1, 1, 2}, {1, 3, 2}, {1, -1, 2}, {1, 3, 61}, {2, 61, 61},
            {3, LEAST, 9}, {3, 9, MOST}, {LEAST, 9, 9}, {MOST, 9, 9}};
        for (int[] w : wrong) {
            Story.refuses("trees" + Arrays.toString(w), d -> Story.truth(d.trees(w[0], w[1], w[2])), 0);
        }
        FrontierDesk d = pair(0, 0, 2, 0);
        Due.yes("WOOD 1", d.trees(1, 2, 3));
        Due.yes("WOOD 2", d.trees(2, 4, 5));
        Due.yes("WOOD 3", d.trees(3, 6, 7));
        for (int wood = 1; wood <= 3; wood++) {
            d.ground(1, 0, 1, 0, 0, wood);
            Due.is("HIGH of WOOD " + wood, d.raise(0, 1), 4 * wood);
        }
    }

    private static void promise5Refused() {
        Due.sentence("BEND: true; false: no such one.");
        for (int n : new int[] {-1, 1000, LEAST, MOST}) {
            Story.refuses("bend(" + n + ")", d -> Story.truth(d.bend(n)), 0);
        }
    }

    private static void promise6Refused() {
        Due.sentence("HAZE: true; false: no such ones.");
        int[][] wrong = {{-1, 0, 1, 1}, {12, 0, 1, 1}, {3, -1, 1, 1}, {3, 2, 1, 1}, {3, 1, -1, 1}, {3, 1, 1, 31},
            {3, 1, 9, 8}, {LEAST, 1, 1, 1}, {MOST, 1, 1, 1}, {3, LEAST, 1, 1}, {3, MOST, 1, 1}, {3, 1, LEAST, 1},
            {3, 1, 1, MOST}};
        for (int[] w : wrong) {
            Story.refuses("haze" + Arrays.toString(w), d -> Story.truth(d.haze(w[0], w[1], w[2], w[3])), 0);
        }
    }

    private static void promise7Post() {
        Due.sentence("A POST (STORE 0): its number");
        FrontierDesk d = new FrontierDesk();
        Due.is("the first", d.post(3, 3, 1, 40, true, 50), 0);
        Due.is("STORE 0", d.look(0, 4), 0);
        d.store(0, 9999);
        d.land(4, 4);
        Due.is("the first of another LAND", d.post(3, 3, 1, 40, true, 50), 0);
        Due.is("STORE 0", d.look(0, 4), 0);
        Due.is("a SUPPOSED one", d.post(2, 3, 1, 40, false, 50), 1);
        Due.is("STORE 0", d.look(1, 4), 0);
    }

    private static void promise7Refused() {
        Due.sentence("NONE: it can't be, there is one at that CELL, or there are 12.");
        int[][] wrong = {{-1, 1, 1, 1, 0}, {1, -1, 1, 1, 0}, {16, 1, 1, 1, 0}, {1, 6, 1, 1, 0}, {1, 1, 0, 1, 0},
            {1, 1, 2, 1, 0}, {1, 1, 1, 41, 0}, {1, 1, 1, 1, -1}, {1, 1, 1, 1, 51}, {0, 0, 1, 1, 0}, {9, 0, 1, 1, 0},
            {3, 5, 1, 1, 0}, {LEAST, LEAST, 1, 1, 0}, {MOST, MOST, 1, 1, 0}};
        for (int[] w : wrong) {
            Story.refuses("post" + Arrays.toString(w), d -> d.post(w[0], w[1], w[2], w[3], true, w[4]));
            Story.refuses("post SUPPOSED" + Arrays.toString(w), d -> d.post(w[0], w[1], w[2], w[3], false, w[4]));
        }
        FrontierDesk d = Story.told();
        for (int p = Story.POSTS; p < 12; p++) {
            Due.is("up to 12", d.post(p, 4, 1, 1, true, 0), p);
        }
        Due.is("a 13th", d.post(1, 1, 1, 1, true, 0), NONE);
        Due.is("12 stay", d.count(2), 12);
        Due.is("the last one stays", d.look(11, 0), 11);
        Due.is("the first one stays", d.look(0, 0), 0);
    }

    private static final int[][] NO_PAIRS = {{-1, 0}, {0, -1}, {0, Story.POSTS}, {Story.POSTS, 0}, {0, 0}, {2, 2}, {5, 0},
        {0, 5}, {5, 5}, {12, 0}, {0, 12}, {LEAST, 0}, {0, LEAST}, {MOST, 0}, {0, MOST}, {-1, -1}};

    private static void promise8Refused() {
        Due.sentence("SIGHT; NONE: no such POSTS (EMPTY, or both the same), MONTH, KIND.");
        for (int[] w : NO_PAIRS) {
            Story.refuses("sight" + Arrays.toString(w), d -> d.sight(w[0], w[1], 0, 0));
        }
        for (int[] w : new int[][] {{-1, 0}, {12, 0}, {0, -1}, {0, 2}, {LEAST, 0}, {MOST, 0}, {0, LEAST}, {0, MOST}}) {
            Story.refuses("sight in" + Arrays.toString(w), d -> d.sight(0, 1, w[0], w[1]));
        }
        FrontierDesk d = Story.told();
        Due.is("the last POST, MONTH, KIND", d.sight(8, 2, 11, 1), 2);
        Due.is("a SUPPOSED one", d.sight(3, 4, 0, 0), 2);
    }

    private static void promise9Block() {
        Due.sentence("The CELL (W times y and x) at which the LINE is first not OPEN, with the least k, for SURE (true) "
                + "or MAY");
        FrontierDesk d = land(5, 7);
        d.post(0, 0, 1, 2, true, 0);
        d.post(4, 6, 1, 2, true, 0);
        d.post(2, 0, 1, 2, true, 0);
        d.post(2, 6, 1, 2, true, 0);
        d.ground(1, 0, 1, 0, 2, 0);
        Due.is("the least number there can be", d.block(0, 2, true), 1);
        Due.is("not for MAY", d.block(0, 2, false), NONE);
        d.ground(3, 6, 3, 6, 3, 0);
        Due.is("the greatest", d.block(1, 3, false), 5 * 6 + 3);
        d.ground(2, 1, 2, 5, 2, 0);
        d.ground(2, 4, 2, 4, 3, 0);
        Due.is("the least k for SURE", d.block(2, 3, true), 5 + 2);
        Due.is("the least k for SURE, back", d.block(3, 2, true), 5 * 5 + 2);
        Due.is("the least k for MAY", d.block(2, 3, false), 5 * 4 + 2);
        d.haze(0, 0, 0, 0);
        Due.is("HAZE is not asked", d.block(2, 3, false), 5 * 4 + 2);
    }

    private static void promise9Refused() {
        Due.sentence("NONE: it is OPEN, or no such POSTS.");
        for (int[] w : NO_PAIRS) {
            Story.refuses("block SURE" + Arrays.toString(w), d -> d.block(w[0], w[1], true));
            Story.refuses("block MAY" + Arrays.toString(w), d -> d.block(w[0], w[1], false));
        }
        Due.is("OPEN for SURE", Story.told().block(0, 7, true), NONE);
        Due.is("OPEN for MAY", Story.told().block(0, 1, false), NONE);
    }

    private static void promise10Refused() {
        Due.sentence("RAISE; NONE: no such POSTS.");
        for (int[] w : NO_PAIRS) {
            Story.refuses("raise" + Arrays.toString(w), d -> d.raise(w[0], w[1]));
        }
        Due.is("a SUPPOSED one", Story.told().raise(3, 4), 0);
    }
}
