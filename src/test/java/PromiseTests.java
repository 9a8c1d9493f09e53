import java.util.Arrays;

/** For each promise of the document: ordinary inputs, the edges that it names, wrong inputs. */
public final class PromiseTests {
    private static final int NONE = FrontierDesk.NONE;

    private PromiseTests() {
    }

    public static void main(String[] args) {
        promise1NewObject();
        promise2Land();
        promise3Ground();
        promise4Trees();
        promise5Bend();
        promise6Haze();
        promise7Post();
        promise8Sight();
        promise9Block();
        promise10Raise();
        promise11Note();
        promise12Strike();
        promise13Years();
        promise14Quarrel();
        promise15Stood();
        promise16Groups();
        promise17Cuts();
        promise18Join();
        promise19Joined();
        promise20Dig();
        promise21Dug();
        promise22Feed();
        promise23Rules();
        promise24Fault();
        promise24FaultPlaces();
        promise25Send();
        promise25SendSpent();
        promise26Heard();
        promise27Sent();
        promise27SentMisread();
        promise28Way();
        promise29Store();
        promise30Supply();
        promise31Supplied();
        promise32Look();
        promise33Count();
        Due.end();
    }

    /** FOUND POSTS with TOWERS of 5 at y 0 of a LAND of 16 by 4. */
    private static FrontierDesk row(int... xs) {
        FrontierDesk d = new FrontierDesk();
        d.land(16, 4);
        for (int x : xs) {
            d.post(x, 0, 5, 5, true, 0);
        }
        return d;
    }

    private static void promise1NewObject() {
        Due.part("promise 1");
        FrontierDesk d = new FrontierDesk();
        int[] counts = {4, 4, 0, 0, 0, 0, 2, 1};
        for (int what = 0; what < counts.length; what++) {
            Due.is("count(" + what + ")", d.count(what), counts[what]);
        }
        Due.is("look(0, 0)", d.look(0, 0), NONE);
        Due.is("quarrel()", d.quarrel(), NONE);
        Due.is("joined(0, 0)", d.joined(0, 0), NONE);
        Due.is("dig()", d.dig(), NONE);
        Due.is("fault(0)", d.fault(0), 0);
        Due.is("fault(1)", d.fault(1), NONE);
        Due.is("sent(0)", d.sent(0), NONE);
        Due.is("heard(0, 0, 0)", d.heard(0, 0, 0), NONE);
        Due.is("supplied(0, 0)", d.supplied(0, 0), NONE);
        Due.is("rules(1)", d.rules(1), -2);
        Due.is("rules(0)", d.rules(0), 0);
        Due.is("groups(0, 0, 0, 1)", d.groups(0, 0, 0, 1), 0);
        Due.is("post(3, 3)", d.post(3, 3, 1, 1, true, 0), 0);
        Due.is("post(0, 0)", d.post(0, 0, 1, 1, true, 0), 1);
        Due.is("sight over 30 CELLS of HAZE", d.sight(0, 1, 11, 1), 2);
        Due.is("way(0, 1)", d.way(0, 1), 60);
    }

    private static void promise2Land() {
        Due.part("promise 2");
        FrontierDesk d = row(0, 5, 10);
        Due.no("land(3, 4)", d.land(3, 4));
        Due.no("land(4, 3)", d.land(4, 3));
        Due.no("land(17, 16)", d.land(17, 16));
        Due.no("land(16, 17)", d.land(16, 17));
        Due.no("land(-4, -4)", d.land(-4, -4));
        Due.is("POSTS stay when it is refused", d.count(2), 3);
        d.trees(1, 2, 9);
        d.bend(100);
        d.haze(0, 0, 3, 4);
        Due.is("rules", Due.rules(d, "word a 1; minutes 3;"), 1);
        d.note(0, 0, 9);
        Due.is("join", d.join(1, 0, 9, 1), 0);
        d.ground(1, 0, 1, 0, 50, 3);
        Due.is("send", d.send(0, 0, 1, 0, 9), 1);
        d.feed(0, 0, 0, 0, 0);
        Due.yes("land(4, 16)", d.land(4, 16));
        Due.is("W", d.count(0), 4);
        Due.is("H", d.count(1), 16);
        Due.is("no POSTS", d.count(2), 0);
        Due.is("no NOTES", d.count(3), 0);
        Due.is("RULES stay", d.count(4), 1);
        Due.is("minutes stay", d.count(6), 3);
        Due.is("no MESSAGE", d.sent(0), NONE);
        Due.is("nothing JOINED", d.joined(0, 0), NONE);
        Due.yes("land(16, 4)", d.land(16, 4));
        d.post(0, 0, 5, 5, true, 0);
        d.post(2, 0, 5, 5, true, 0);
        Due.is("HEIGHTS and WOODS are 0", d.way(0, 1), 20);
        Due.is("the TAPE stays", d.feed(0, 0, 0, 0, 0), 40);
        Due.is("years by no NOTES", d.years(0, 0, 1), 500);
        d.post(6, 0, 5, 5, true, 0);
        Due.is("HAZE stays: 4 cells", d.sight(1, 2, 0, 0), 1);
        d.ground(1, 0, 1, 0, 0, 1);
        Due.is("TREES of 9 stay", d.block(0, 1, true), 1);
        Due.is("TREES of 2 stay", d.block(0, 1, false), NONE);
        d.ground(1, 0, 1, 0, 5, 0);
        Due.is("BEND stays: a tenth too high", d.block(0, 1, true), 1);
        landEndsWhatWasKept();
    }

    /** What is worked out once and kept must not outlive the LAND. */
    private static void landEndsWhatWasKept() {
        FrontierDesk d = row(0, 3);
        d.ground(1, 0, 1, 3, 100, 0);
        Due.is("way over the wall", d.way(0, 1), 30 + 200 + 100);
        d.note(1, 0, 100);
        d.store(0, 7);
        Due.is("years", d.years(0, 1, 3), 100);
        Due.is("no QUARREL", d.quarrel(), NONE);
        d.land(16, 4);
        d.post(0, 0, 5, 5, true, 0);
        d.post(3, 0, 5, 5, true, 0);
        Due.is("no wall", d.way(0, 1), 30);
        Due.is("no STORE", d.look(0, 4), 0);
        d.note(1, 0, 200);
        Due.is("other years", d.years(0, 1, 3), 200);
        d.land(16, 4);
        d.post(0, 0, 5, 5, true, 0);
        d.note(0, 0, 5);
        d.note(1, 0, 4);
        Due.is("a QUARREL", d.quarrel(), 2);
    }

    private static void promise3Ground() {
        Due.part("promise 3");
        FrontierDesk d = row(0, 3);
        Due.yes("the whole LAND", d.ground(0, 0, 15, 3, 999, 3));
        Due.is("way over WOOD 3", d.way(0, 1), 3 * (10 + 15));
        Due.yes("one CELL", d.ground(1, 0, 1, 0, 0, 0));
        Due.is("way round: 999 down and 1998 up cost more", d.way(0, 1), 5 * 25);
        int[][] wrong = {{-1, 0, 1, 1, 1, 1}, {0, -1, 1, 1, 1, 1}, {0, 0, 16, 1, 1, 1}, {0, 0, 1, 4, 1, 1},
            {2, 0, 1, 1, 1, 1}, {0, 2, 1, 1, 1, 1}, {0, 0, 1, 1, 1000, 1}, {0, 0, 1, 1, -1, 1},
            {0, 0, 1, 1, 1, 4}, {0, 0, 1, 1, 1, -1}};
        for (int[] w : wrong) {
            Due.no("ground" + Arrays.toString(w), d.ground(w[0], w[1], w[2], w[3], w[4], w[5]));
        }
        Due.is("nothing happened", d.way(0, 1), 5 * 25);
        Due.yes("a part", d.ground(0, 0, 3, 1, 10, 1));
        Due.is("way over the part", d.way(0, 1), 3 * 15);
    }

    private static void promise4Trees() {
        Due.part("promise 4");
        FrontierDesk d = row(0, 2);
        d.ground(1, 0, 1, 0, 0, 3);
        Due.yes("trees(3, 0, 60)", d.trees(3, 0, 60));
        Due.is("TREES of 60", d.sight(0, 1, 0, 0), 1);
        Due.yes("trees(3, 6, 6)", d.trees(3, 6, 6));
        Due.is("TREES of 6 .. 6", d.sight(0, 1, 0, 0), 0);
        Due.no("trees(0, 0, 0)", d.trees(0, 0, 0));
        Due.no("trees(4, 0, 0)", d.trees(4, 0, 0));
        Due.no("trees(3, 2, 1)", d.trees(3, 2, 1));
        Due.no("trees(3, -1, 1)", d.trees(3, -1, 1));
        Due.no("trees(3, 1, 61)", d.trees(3, 1, 61));
        Due.is("as before", d.sight(0, 1, 0, 0), 0);
        Due.yes("trees(3, 5, 5)", d.trees(3, 5, 5));
        Due.is("just as high as the eyes", d.sight(0, 1, 0, 0), 2);
        Due.yes("trees(1, 60, 60)", d.trees(1, 60, 60));
        Due.is("another WOOD's", d.sight(0, 1, 0, 0), 2);
    }

    private static void promise5Bend() {
        Due.part("promise 5");
        FrontierDesk d = row(0, 10);
        Due.yes("bend(200)", d.bend(200));
        Due.is("5 times 5 times 0.2 is 5 at the middle", d.sight(0, 1, 0, 0), 2);
        Due.yes("bend(201)", d.bend(201));
        Due.is("5.025 at the middle", d.sight(0, 1, 0, 0), 0);
        Due.is("block", d.block(0, 1, true), 5);
        Due.is("raise: a metre lifts the middle by a half", d.raise(0, 1), 1);
        Due.no("bend(1000)", d.bend(1000));
        Due.no("bend(-1)", d.bend(-1));
        Due.is("as before", d.sight(0, 1, 0, 0), 0);
        Due.yes("bend(999)", d.bend(999));
        Due.is("k of 1 has 8.991", d.block(0, 1, true), 1);
        Due.yes("bend(0)", d.bend(0));
        Due.is("flat", d.sight(0, 1, 0, 0), 2);
    }

    private static void promise6Haze() {
        Due.part("promise 6");
        FrontierDesk d = new FrontierDesk();
        d.land(8, 8);
        d.post(0, 0, 1, 1, true, 0);
        d.post(3, 4, 1, 1, true, 0);
        Due.yes("haze(11, 1, 5, 5)", d.haze(11, 1, 5, 5));
        Due.is("just 5 far", d.sight(0, 1, 11, 1), 2);
        Due.yes("haze(11, 1, 4, 5)", d.haze(11, 1, 4, 5));
        Due.is("MAY", d.sight(0, 1, 11, 1), 1);
        Due.yes("haze(11, 1, 0, 4)", d.haze(11, 1, 0, 4));
        Due.is("too far", d.sight(0, 1, 11, 1), 0);
        Due.is("another KIND", d.sight(0, 1, 11, 0), 2);
        Due.is("another MONTH", d.sight(0, 1, 10, 1), 2);
        Due.no("haze(12, 0, 1, 1)", d.haze(12, 0, 1, 1));
        Due.no("haze(-1, 0, 1, 1)", d.haze(-1, 0, 1, 1));
        Due.no("haze(0, 2, 1, 1)", d.haze(0, 2, 1, 1));
        Due.no("haze(0, -1, 1, 1)", d.haze(0, -1, 1, 1));
        Due.no("haze(0, 0, -1, 1)", d.haze(0, 0, -1, 1));
        Due.no("haze(0, 0, 2, 1)", d.haze(0, 0, 2, 1));
        Due.no("haze(0, 0, 1, 31)", d.haze(0, 0, 1, 31));
        Due.is("as before", d.sight(0, 1, 0, 0), 2);
        Due.yes("haze(0, 0, 30, 30)", d.haze(0, 0, 30, 30));
    }

    private static void promise7Post() {
        Due.part("promise 7");
        FrontierDesk d = new FrontierDesk();
        Due.is("post", d.post(3, 3, 1, 40, false, 50), 0);
        Due.is("the same CELL", d.post(3, 3, 2, 3, true, 1), NONE);
        Due.is("x -1", d.post(-1, 0, 1, 1, true, 0), NONE);
        Due.is("y -1", d.post(0, -1, 1, 1, true, 0), NONE);
        Due.is("x 4", d.post(4, 0, 1, 1, true, 0), NONE);
        Due.is("y 4", d.post(0, 4, 1, 1, true, 0), NONE);
        Due.is("LOW 0", d.post(0, 0, 0, 1, true, 0), NONE);
        Due.is("LOW above HIGH", d.post(0, 0, 3, 2, true, 0), NONE);
        Due.is("HIGH 41", d.post(0, 0, 3, 41, true, 0), NONE);
        Due.is("MEN -1", d.post(0, 0, 3, 4, true, -1), NONE);
        Due.is("MEN 51", d.post(0, 0, 3, 4, true, 51), NONE);
        Due.is("none came", d.count(2), 1);
        d.dug(0, false);
        Due.is("an EMPTY one keeps its CELL", d.post(3, 3, 1, 1, true, 0), NONE);
        for (int i = 1; i < 12; i++) {
            Due.is("post " + i, d.post(i % 4, i / 4, 1, 1, true, 0), i);
        }
        Due.is("a 13th", d.post(0, 3, 1, 1, true, 0), NONE);
        Due.is("POSTS", d.count(2), 12);
    }

    private static void promise8Sight() {
        Due.part("promise 8");
        FrontierDesk d = new FrontierDesk();
        d.land(16, 16);
        d.post(0, 0, 5, 8, true, 0);
        d.post(2, 1, 5, 8, true, 0);
        Due.is("nothing between", d.sight(0, 1, 0, 0), 2);
        d.ground(1, 0, 1, 0, 999, 0);
        Due.is("a half goes upward: not over (1, 0)", d.sight(0, 1, 0, 0), 2);
        Due.is("nor back", d.sight(1, 0, 0, 0), 2);
        d.ground(1, 1, 1, 1, 6, 0);
        Due.is("but over (1, 1): MAY by HIGH TOWERS", d.sight(0, 1, 0, 0), 1);
        d.ground(1, 1, 1, 1, 9, 0);
        Due.is("above HIGH TOWERS", d.sight(0, 1, 0, 0), 0);
        d.ground(0, 0, 0, 0, 2, 0);
        Due.is("the POST's HEIGHT lifts the eye: 9 of 10 and 8", d.sight(0, 1, 0, 0), 1);
        d.ground(0, 0, 0, 0, 2, 3);
        d.trees(3, 40, 60);
        Due.is("TREES at the POST itself don't count", d.sight(0, 1, 0, 0), 1);
        d.post(3, 2, 1, 1, false, 0);
        Due.is("beside each other, SUPPOSED", d.sight(1, 2, 0, 0), 2);
        Due.is("both the same", d.sight(1, 1, 0, 0), NONE);
        Due.is("no such a", d.sight(-1, 1, 0, 0), NONE);
        Due.is("no such b", d.sight(1, 3, 0, 0), NONE);
        Due.is("MONTH 12", d.sight(0, 1, 12, 0), NONE);
        Due.is("MONTH -1", d.sight(0, 1, -1, 0), NONE);
        Due.is("KIND 2", d.sight(0, 1, 0, 2), NONE);
        Due.is("KIND -1", d.sight(0, 1, 0, -1), NONE);
        d.dug(2, false);
        Due.is("EMPTY", d.sight(1, 2, 0, 0), NONE);
        Due.is("from EMPTY", d.sight(2, 1, 0, 0), NONE);
        slopingLines();
    }

    /** LINES that go by thirds, down and up, exactly. */
    private static void slopingLines() {
        FrontierDesk d = new FrontierDesk();
        d.land(16, 16);
        d.post(3, 3, 10, 10, true, 0);
        d.post(0, 2, 4, 4, true, 0);
        d.ground(2, 3, 2, 3, 8, 0);
        Due.is("8 is just two thirds of 10 and a third of 4", d.sight(0, 1, 0, 0), 2);
        d.ground(1, 2, 1, 2, 6, 0);
        Due.is("6 likewise", d.sight(1, 0, 0, 0), 2);
        d.ground(1, 2, 1, 2, 7, 0);
        Due.is("7 is above", d.sight(0, 1, 0, 0), 0);
        Due.is("back, too", d.sight(1, 0, 0, 0), 0);
        Due.is("block", d.block(0, 1, true), 33);
    }

    private static void promise9Block() {
        Due.part("promise 9");
        FrontierDesk d = new FrontierDesk();
        d.land(10, 5);
        d.post(0, 4, 5, 10, true, 0);
        d.post(8, 0, 5, 10, true, 0);
        Due.is("OPEN", d.block(0, 1, true), NONE);
        d.ground(2, 3, 2, 3, 6, 0);
        d.ground(4, 2, 4, 2, 11, 0);
        Due.is("the least k for SURE", d.block(0, 1, true), 32);
        Due.is("for MAY", d.block(0, 1, false), 24);
        Due.is("from the other side", d.block(1, 0, true), 24);
        d.haze(0, 0, 0, 0);
        Due.is("HAZE doesn't matter", d.block(0, 1, false), 24);
        Due.is("the same", d.block(1, 1, true), NONE);
        Due.is("no such", d.block(0, 2, true), NONE);
        d.post(9, 4, 1, 1, false, 0);
        d.ground(5, 4, 5, 4, 99, 0);
        Due.is("SUPPOSED", d.block(0, 2, true), 45);
        d.dug(2, false);
        Due.is("EMPTY", d.block(0, 2, true), NONE);
    }

    private static void promise10Raise() {
        Due.part("promise 10");
        FrontierDesk d = row(0, 4);
        Due.is("OPEN", d.raise(0, 1), 0);
        d.ground(3, 0, 3, 0, 6, 0);
        Due.is("a metre at k 3 lifts a quarter", d.raise(0, 1), 4);
        Due.is("from the near side 4 thirds are 2", d.raise(1, 0), 2);
        d.haze(0, 0, 0, 0);
        Due.is("without HAZE", d.raise(0, 1), 4);
        d.ground(3, 0, 3, 0, 3, 1);
        d.trees(1, 0, 4);
        Due.is("with HIGH TREES", d.raise(0, 1), 8);
        d.ground(3, 0, 3, 0, 999, 0);
        Due.is("no limit of 40", d.raise(0, 1), 4 * 994);
        Due.is("the same", d.raise(0, 0), NONE);
        Due.is("no such", d.raise(0, 2), NONE);
        Due.is("no such", d.raise(-1, 0), NONE);
        d.post(8, 0, 5, 5, false, 0);
        Due.is("SUPPOSED", d.raise(1, 2), 0);
        d.dug(2, false);
        Due.is("EMPTY", d.raise(1, 2), NONE);
    }

    private static void promise11Note() {
        Due.part("promise 11");
        FrontierDesk d = row(0, 1);
        d.post(2, 0, 1, 1, false, 0);
        d.dug(2, false);
        int[][] wrong = {{-1, 0, 1}, {6, 0, 1}, {0, -1, 1}, {0, 3, 1}, {0, 0, -1}, {0, 0, 501}, {1, 0, 501},
            {2, 0, 0}, {2, 0, 3}, {2, 0, -1}, {3, 1, 1}, {3, 3, 1}, {4, 0, 501}, {5, 0, -1}};
        for (int[] w : wrong) {
            Due.is("note" + Arrays.toString(w), d.note(w[0], w[1], w[2]), NONE);
        }
        Due.is("none came", d.count(3), 0);
        Due.is("TILE", d.note(0, 0, 0), 0);
        Due.is("BURNT", d.note(1, 0, 500), 1);
        Due.is("STONES", d.note(2, 1, 0), 2);
        Due.is("SIGNALLED with an EMPTY one", d.note(3, 2, 1), 3);
        Due.is("COIN", d.note(4, 1, 500), 4);
        Due.is("NOT YET", d.note(5, 1, 0), 5);
        for (int i = 6; i < 60; i++) {
            Due.is("note " + i, d.note(0, 0, 250), i);
        }
        Due.is("a 61st", d.note(0, 0, 250), NONE);
        Due.is("as KNOWN by all 60", d.years(0, 60, 2), 500);
        Due.is("no QUARREL up to 60", d.quarrel(), NONE);
        Due.is("NOTES", d.count(3), 60);
    }

    private static void promise12Strike() {
        Due.part("promise 12");
        FrontierDesk d = row(0);
        Due.is("none to strike", d.strike(0), NONE);
        d.note(1, 0, 100);
        Due.is("no such", d.strike(1), NONE);
        Due.is("no such", d.strike(-1), NONE);
        Due.is("strike(0)", d.strike(0), 1);
        Due.is("struck", d.years(0, 2, 3), 500);
        Due.is("as KNOWN by 1", d.years(0, 1, 3), 100);
        Due.is("strike(1)", d.strike(1), 2);
        Due.is("the STRIKE doesn't count", d.years(0, 3, 3), 100);
        Due.is("strike(2)", d.strike(2), 3);
        Due.is("nor does that one", d.years(0, 4, 3), 500);
        Due.is("strike(0) again", d.strike(0), 4);
        Due.is("strike(3)", d.strike(3), 5);
        Due.is("struck by 4 alone", d.years(0, 6, 3), 500);
        Due.is("strike(4)", d.strike(4), 6);
        Due.is("by none", d.years(0, 7, 3), 100);
        for (int i = 7; i < 60; i++) {
            Due.is("strike " + i, d.strike(0), i);
        }
        Due.is("a 61st", d.strike(0), NONE);
    }

    private static void years(FrontierDesk d, int post, int n, int... due) {
        for (int what = 0; what < 4; what++) {
            Due.is("years(" + post + ", " + n + ", " + what + ")", d.years(post, n, what), due[what]);
        }
    }

    private static void promise13Years() {
        Due.part("promise 13");
        FrontierDesk d = row(0, 1, 2);
        years(d, 0, 0, 0, 500, 0, 500);
        d.note(0, 0, 100);
        years(d, 0, 1, 0, 100, 100, 500);
        d.note(5, 0, 40);
        years(d, 0, 2, 40, 100, 100, 500);
        d.note(1, 0, 120);
        years(d, 0, 3, 40, 100, 120, 120);
        d.note(2, 1, 0);
        years(d, 1, 4, 120, 500, 120, 500);
        d.note(4, 1, 200);
        years(d, 1, 5, 120, 500, 200, 500);
        d.note(3, 2, 1);
        years(d, 2, 6, 0, 500, 120, 500);
        d.note(1, 2, 130);
        years(d, 1, 7, 120, 130, 200, 500);
        years(d, 2, 7, 0, 130, 130, 130);
        d.note(2, 0, 2);
        years(d, 0, 8, NONE, NONE, NONE, NONE);
        years(d, 1, 8, NONE, NONE, NONE, NONE);
        years(d, 1, 7, 120, 130, 200, 500);
        Due.is("no such POST", d.years(3, 0, 0), NONE);
        Due.is("no such POST", d.years(-1, 0, 0), NONE);
        Due.is("n -1", d.years(0, -1, 0), NONE);
        Due.is("n 9", d.years(0, 9, 0), NONE);
        Due.is("what 4", d.years(0, 0, 4), NONE);
        Due.is("what -1", d.years(0, 0, -1), NONE);
        longRowOfStones();
    }

    /** A row of STONES over all 12 POSTS, told from the wrong end: bounds go all the way. */
    private static void longRowOfStones() {
        FrontierDesk d = row(0, 1, 2, 3, 4, 5, 6, 7, 8, 9, 10, 11);
        for (int p = 10; p >= 0; p--) {
            d.note(2, p + 1, p);
        }
        d.note(5, 0, 77);
        d.note(1, 11, 333);
        for (int p = 0; p < 11; p++) {
            years(d, p, 13, 77, 333, 77, 333);
        }
        years(d, 11, 13, 77, 333, 333, 333);
        d.note(2, 0, 11);
        years(d, 5, 14, 333, 333, 333, 333);
        d.note(1, 3, 332);
        years(d, 5, 15, NONE, NONE, NONE, NONE);
        d.strike(12);
        years(d, 5, 16, 332, 332, 332, 332);
    }

    private static void promise14Quarrel() {
        Due.part("promise 14");
        FrontierDesk d = row(0, 1);
        Due.is("without NOTES", d.quarrel(), NONE);
        d.note(0, 0, 100);
        Due.is("one TILE", d.quarrel(), NONE);
        d.note(1, 0, 99);
        Due.is("BURNT before", d.quarrel(), 2);
        d.strike(1);
        Due.is("STRUCK later: still KNOWN by 2", d.quarrel(), 2);
        d.strike(1);
        d.strike(3);
        Due.is("the least n", d.quarrel(), 2);
        d.land(4, 4);
        d.post(0, 0, 1, 1, true, 0);
        Due.is("another LAND", d.quarrel(), NONE);
        d.note(0, 0, 100);
        d.note(0, 0, 200);
        Due.is("two TILES", d.quarrel(), NONE);
        d.note(5, 0, 101);
        Due.is("NOT YET behind a TILE", d.quarrel(), 3);
        FrontierDesk e = row(0, 1);
        e.note(2, 0, 1);
        e.note(2, 1, 0);
        Due.is("STONES both ways: all in one YEAR", e.quarrel(), NONE);
        e.note(0, 0, 7);
        e.note(0, 1, 8);
        Due.is("of two YEARS", e.quarrel(), 4);
    }

    private static void promise15Stood() {
        Due.part("promise 15");
        FrontierDesk d = row(0, 1);
        d.note(0, 0, 100);
        d.note(0, 0, 110);
        d.note(5, 0, 90);
        d.note(1, 0, 120);
        int[][] due = {{89, 0}, {90, 1}, {99, 1}, {100, 2}, {110, 2}, {120, 2}, {121, 0}, {0, 0}, {500, 0}};
        for (int[] y : due) {
            Due.is("stood(0, " + y[0] + ", 4)", d.stood(0, y[0], 4), y[1]);
        }
        Due.is("as KNOWN by 3", d.stood(0, 121, 3), 1);
        Due.is("as KNOWN by 0", d.stood(0, 0, 0), 1);
        d.note(1, 0, 119);
        Due.is("in a QUARREL", d.stood(0, 100, 5), 0);
        Due.is("another POST in a QUARREL", d.stood(1, 100, 5), 0);
        Due.is("before it", d.stood(0, 100, 4), 2);
        Due.is("no such POST", d.stood(2, 100, 0), NONE);
        Due.is("no such POST", d.stood(-1, 100, 0), NONE);
        Due.is("YEAR -1", d.stood(0, -1, 0), NONE);
        Due.is("YEAR 501", d.stood(0, 501, 0), NONE);
        Due.is("n -1", d.stood(0, 1, -1), NONE);
        Due.is("n 6", d.stood(0, 1, 6), NONE);
        d.land(4, 4);
        d.post(0, 0, 1, 1, false, 0);
        d.dug(0, false);
        d.note(0, 0, 5);
        Due.is("EMPTY", d.stood(0, 5, 1), 2);
    }

    /** A method that takes MONTH, KIND, YEAR and LEVEL. */
    private interface OfLine {
        int ask(int month, int kind, int year, int level);
    }

    private static void refusesWrongLines(OfLine method) {
        int[][] wrong = {{-1, 0, 9, 1}, {12, 0, 9, 1}, {0, -1, 9, 1}, {0, 2, 9, 1}, {0, 0, -1, 1},
            {0, 0, 501, 1}, {0, 0, 9, 0}, {0, 0, 9, 3}};
        for (int[] w : wrong) {
            Due.is("wrong " + Arrays.toString(w), method.ask(w[0], w[1], w[2], w[3]), NONE);
        }
    }

    private static void promise16Groups() {
        Due.part("promise 16");
        FrontierDesk d = row(0, 4, 8, 15);
        d.haze(0, 0, 3, 4);
        Due.is("of LEVEL 1", d.groups(0, 0, 9, 1), 2);
        Due.is("of LEVEL 2: none STOOD SURELY", d.groups(0, 0, 9, 2), 0);
        for (int p = 0; p < 4; p++) {
            d.note(0, p, 9);
        }
        Due.is("of LEVEL 2: not LINKED", d.groups(0, 0, 9, 2), 4);
        Due.is("in a clear MONTH", d.groups(1, 0, 9, 2), 1);
        d.note(1, 1, 20);
        Due.is("without the second", d.groups(0, 0, 21, 1), 3);
        d.post(12, 0, 5, 5, false, 0);
        Due.is("SUPPOSED ones don't count", d.groups(0, 0, 9, 1), 2);
        d.dug(4, true);
        Due.is("FOUND now", d.groups(0, 0, 9, 1), 1);
        d.note(1, 1, 21);
        Due.is("in a QUARREL", d.groups(0, 0, 9, 1), 0);
        refusesWrongLines(d::groups);
    }

    private static void promise17Cuts() {
        Due.part("promise 17");
        FrontierDesk d = row(0, 4, 8, 12);
        d.haze(0, 0, 4, 4);
        Due.is("the inner ones", d.cuts(0, 0, 9, 1), 0b0110);
        d.post(6, 2, 5, 5, true, 0);
        Due.is("a way round none of them", d.cuts(0, 0, 9, 1), 0b0110);
        d.post(2, 2, 5, 5, true, 0);
        Due.is("a way from 0 to 5, 5 to 4, 4 to 2", d.cuts(0, 0, 9, 1), 0b0100);
        d.note(1, 1, 5);
        Due.is("without POST 1", d.cuts(0, 0, 9, 1), 0b110100);
        Due.is("of LEVEL 2", d.cuts(0, 0, 9, 2), 0);
        FrontierDesk e = row(0, 15);
        e.haze(0, 0, 1, 1);
        Due.is("alone each: none", e.cuts(0, 0, 9, 1), 0);
        Due.is("no POSTS", new FrontierDesk().cuts(0, 0, 9, 1), 0);
        refusesWrongLines(d::cuts);
    }

    /** POSTS 0 and 1 FOUND at both ends, SUPPOSED ones between that reach 5 CELLS. */
    private static FrontierDesk gap() {
        FrontierDesk d = row(0, 10);
        d.post(5, 0, 5, 5, false, 0);
        d.post(5, 3, 5, 5, false, 0);
        d.post(15, 3, 5, 5, false, 0);
        d.haze(0, 0, 5, 5);
        return d;
    }

    private static void promise18Join() {
        Due.part("promise 18");
        FrontierDesk d = gap();
        Due.is("one does it", d.join(0, 0, 9, 1), 1);
        Due.is("(5, 3) is too far", d.joined(2, 0), 0b100);
        Due.is("a clear MONTH: one GROUP", d.join(1, 0, 9, 1), 0);
        Due.is("no POSTS that STOOD so", d.join(0, 0, 9, 2), 0);
        d.note(0, 0, 9);
        d.note(0, 1, 9);
        Due.is("no SUPPOSED that STOOD SURELY", d.join(0, 0, 9, 2), NONE);
        Due.is("nothing is JOINED then", d.joined(0, 0), NONE);
        d.note(0, 2, 9);
        Due.is("one that STOOD SURELY", d.join(0, 0, 9, 2), 1);
        refusesWrongLines(d::join);
        Due.is("what is JOINED stays", d.joined(0, 0), 1);
        d.note(1, 2, 10);
        Due.is("it STOOD no more", d.join(0, 0, 11, 1), NONE);
        d.haze(0, 0, 6, 6);
        Due.is("(5, 3) does it now", d.join(0, 0, 11, 1), 1);
        Due.is("RIVAL", d.joined(2, 0), 0b1000);
        Due.is("one FOUND alone", row(3).join(0, 0, 9, 1), 0);
        threeToJoin();
    }

    /** A SUPPOSED POST that is joined to nobody, or leads nowhere, is in no RIVAL. */
    private static void threeToJoin() {
        FrontierDesk d = new FrontierDesk();
        d.land(16, 16);
        d.post(0, 0, 5, 5, true, 0);
        d.post(12, 0, 5, 5, true, 0);
        d.post(6, 9, 5, 5, true, 0);
        d.post(3, 0, 5, 5, false, 0);
        d.post(6, 3, 5, 5, false, 0);
        d.post(9, 0, 5, 5, false, 0);
        d.post(6, 6, 5, 5, false, 0);
        d.post(15, 15, 5, 5, false, 0);
        d.haze(0, 0, 4, 5);
        Due.is("four of the five", d.join(0, 0, 9, 1), 4);
        Due.is("RIVAL", d.joined(2, 0), 0b1111000);
        Due.is("only one", d.joined(0, 0), 1);
        Due.is("in all: nothing to DIG", d.dig(), NONE);
    }

    private static void promise19Joined() {
        Due.part("promise 19");
        FrontierDesk d = gap();
        d.post(5, 1, 5, 5, false, 0);
        d.haze(0, 0, 6, 6);
        Due.is("nothing yet", d.joined(0, 0), NONE);
        d.join(0, 0, 9, 1);
        Due.is("RIVALS", d.joined(0, 0), 3);
        Due.is("RIVALS, any k", d.joined(0, -7), 3);
        int[] shares = {0, 0, 1, 1, 0, 1};
        for (int p = 0; p < 6; p++) {
            Due.is("SHARE of " + p, d.joined(1, p), shares[p]);
        }
        Due.is("SHARE of none", d.joined(1, 6), NONE);
        Due.is("SHARE of -1", d.joined(1, -1), NONE);
        Due.is("RIVAL 0", d.joined(2, 0), 0b100);
        Due.is("RIVAL 1", d.joined(2, 1), 0b1000);
        Due.is("RIVAL 2", d.joined(2, 2), 0b100000);
        Due.is("RIVAL 3", d.joined(2, 3), NONE);
        Due.is("RIVAL -1", d.joined(2, -1), NONE);
        Due.is("what 3", d.joined(3, 0), NONE);
        Due.is("what -1", d.joined(-1, 0), NONE);
        d.haze(0, 0, 1, 1);
        d.note(1, 2, 3);
        Due.is("as it was then", d.joined(0, 0), 3);
        Due.is("a new POST", d.post(6, 0, 5, 5, false, 0), 6);
        Due.is("has no SHARE", d.joined(1, 6), 0);
        mostRivals();
    }

    /** Two FOUND POSTS, ten SUPPOSED ones of which any five in a row of layers could do. */
    private static void mostRivals() {
        FrontierDesk d = new FrontierDesk();
        d.land(16, 16);
        d.post(0, 0, 5, 5, true, 0);
        d.post(12, 0, 5, 5, true, 0);
        for (int layer = 1; layer <= 5; layer++) {
            d.post(2 * layer, 0, 5, 5, false, 0);
            d.post(2 * layer, 1, 5, 5, false, 0);
        }
        d.haze(0, 0, 3, 3);
        Due.is("five", d.join(0, 0, 9, 1), 5);
        Due.is("2 to the 5th RIVALS", d.joined(0, 0), 32);
        for (int p = 2; p < 12; p++) {
            Due.is("SHARE of " + p, d.joined(1, p), 16);
        }
        Due.is("the first RIVAL", d.joined(2, 0), 0b010101010100);
        Due.is("the last RIVAL", d.joined(2, 31), 0b101010101000);
        Due.is("dig", d.dig(), 2);
    }

    private static void promise20Dig() {
        Due.part("promise 20");
        FrontierDesk d = new FrontierDesk();
        d.land(16, 16);
        d.post(0, 0, 5, 5, true, 0);
        d.post(9, 0, 5, 5, true, 0);
        d.post(3, 1, 5, 5, false, 0);
        d.post(6, 3, 5, 5, false, 0);
        d.post(6, 2, 5, 5, false, 0);
        d.post(4, 0, 5, 5, false, 0);
        d.post(3, 3, 5, 5, false, 0);
        d.haze(0, 0, 4, 4);
        Due.is("nothing JOINED", d.dig(), NONE);
        Due.is("two", d.join(0, 0, 9, 1), 2);
        // 2 or 5 with 4; 2 or 6 with 3 (6 is 4.2 from 0, 5 is 3.6 from 3 and 9 is 4.2 from 3).
        Due.is("RIVALS", d.joined(0, 0), 2);
        Due.is("SHARE of 2", d.joined(1, 2), 1);
        Due.is("SHARE of 4", d.joined(1, 4), 2);
        Due.is("SHARE of 5", d.joined(1, 5), 1);
        Due.is("4 is in all; of 2 and 5 the lesser", d.dig(), 2);
        d.post(6, 0, 5, 5, false, 0);
        Due.is("two", d.join(0, 0, 9, 1), 2);
        Due.is("RIVALS: 2 or 5 with 4 or 7", d.joined(0, 0), 4);
        d.post(3, 0, 5, 5, false, 0);
        Due.is("two", d.join(0, 0, 9, 1), 2);
        Due.is("RIVALS: 2, 5 or 8 with 4 or 7", d.joined(0, 0), 6);
        Due.is("2 has two of six, 4 has three", d.dig(), 4);
        d.dug(4, true);
        Due.is("nothing JOINED behind dug()", d.dig(), NONE);
    }

    private static void promise21Dug() {
        Due.part("promise 21");
        FrontierDesk d = gap();
        Due.no("FOUND already", d.dug(0, true));
        Due.no("no such", d.dug(5, true));
        Due.no("no such", d.dug(-1, false));
        d.join(0, 0, 9, 1);
        Due.no("a refused one", d.dug(1, false));
        Due.is("changes nothing", d.joined(0, 0), 1);
        Due.yes("dug(2, true)", d.dug(2, true));
        Due.is("FOUND", d.look(2, 2), 0);
        Due.is("nothing is JOINED", d.joined(0, 0), NONE);
        Due.is("it joins", d.groups(0, 0, 9, 1), 1);
        Due.yes("STORE of it", d.store(2, 5));
        d.join(0, 0, 9, 1);
        Due.yes("dug(3, false)", d.dug(3, false));
        Due.is("EMPTY", d.look(3, 2), 2);
        Due.is("nothing is JOINED", d.joined(0, 0), NONE);
        Due.no("EMPTY already", d.dug(3, true));
        Due.no("no STORE of it", d.store(3, 5));
        Due.is("its number is kept", d.count(2), 5);
    }

    private static void promise22Feed() {
        Due.part("promise 22");
        FrontierDesk d = new FrontierDesk();
        int[] n = Due.numbers("word abcdefgh 1 2;  ");
        Due.is("feed", d.feed(n[0], n[1], n[2], n[3], n[4]), 20);
        Due.is("rules: the highest byte first", d.rules(18), 1);
        Due.is("the TAPE is empty then", d.feed(0, 0, 0, 0, 0), 20);
        for (int i = 2; i <= 50; i++) {
            Due.is("feed " + i, d.feed(i, -i, i, -i, i), 20 * i);
        }
        Due.is("more than 1000", d.feed(1, 2, 3, 4, 5), NONE);
        Due.is("none came: rules(1001)", d.rules(1001), -2);
        Due.is("rules(1000): byte 0 is none", d.rules(1000), NONE);
        Due.is("at 0", d.fault(1), 0);
        // 0x93 and its like are bytes above 127, not letters.
        d.feed(0x93939393, 0, 0, 0, 0);
        Due.is("rules of a high byte", d.rules(1), NONE);
        Due.is("FAULT", d.fault(0), 1);
        Due.is("place", d.fault(1), 0);
    }

    private static void promise23Rules() {
        Due.part("promise 23");
        FrontierDesk d = row(0, 5);
        Due.is("RULES", Due.rules(d, "word a 1;word b 2 2;\nminutes 9;look 0;order 0 a do pass;"), 2);
        Due.is("WORDS", d.count(4), 2);
        Due.is("orders", d.count(5), 1);
        Due.is("minutes", d.count(6), 9);
        Due.is("look", d.count(7), 0);
        d.send(0, 0, 0, 0, 9);
        Due.put(d, "word");
        Due.is("rules(-1)", d.rules(-1), -2);
        Due.is("rules(21)", d.rules(21), -2);
        Due.is("the TAPE stays", d.feed(0, 0, 0, 0, 0), 40);
        Due.is("with a FAULT", d.rules(4), NONE);
        Due.is("the TAPE is empty", d.feed(0, 0, 0, 0, 0), 20);
        Due.is("the RULES stay with a FAULT", d.count(4), 2);
        Due.is("the MESSAGE, too", d.sent(0), 1);
        Due.is("rules(0)", d.rules(0), 0);
        Due.is("no RULES", d.count(4), 0);
        Due.is("minutes without", d.count(6), 2);
        Due.is("look without", d.count(7), 1);
        Due.is("no MESSAGE", d.sent(0), NONE);
        Due.clean("", 0);
        Due.clean(" \n ", 0);
        Due.clean("word a1;", 1);
        Due.clean("word a 1 2 3 4 5;", 1);
        Due.clean("order any b twice do wait 99 , stop,send b to 11,pass ; word b 9;", 1);
        Due.clean("like 1 1;like 9 1;look 30;minutes 1;", 0);
        Due.clean("word a 007;", 1);
        StringBuilder full = new StringBuilder();
        for (int i = 0; i < 10; i++) {
            full.append("word ").append((char) ('a' + i)).append(" 1 ").append(i / 5 + 1).append(' ')
                    .append(i % 5 + 1).append(';');
        }
        full.append("like 1 2;".repeat(8)).append("order 1 a do pass;".repeat(16));
        Due.clean(full.toString(), 10);
    }

    private static void promise24Fault() {
        Due.part("promise 24");
        FrontierDesk d = new FrontierDesk();
        Due.rules(d, "wird a 1;");
        Due.is("FAULT", d.fault(0), 1);
        Due.is("place", d.fault(1), 0);
        Due.is("what 2", d.fault(2), NONE);
        Due.is("what -1", d.fault(-1), NONE);
        Due.is("-2", d.rules(99), -2);
        Due.is("doesn't count", d.fault(0), 1);
        Due.rules(d, "word a 1;");
        Due.is("none", d.fault(0), 0);
        Due.is("no place", d.fault(1), NONE);
    }

    private static void promise24FaultPlaces() {
        Due.part("promise 24, TOKENS");
        Due.fault(";", 1, 0);
        Due.fault("word a 1", 1, 8);
        Due.fault("word a 1  ", 1, 10);
        Due.fault("word a;", 1, 6);
        Due.fault("word 1 1;", 1, 5);
        Due.fault("word ninechars 1;", 1, 5);
        Due.fault("word to 1;", 1, 5);
        Due.fault("word aB 1;", 1, 6);
        Due.fault("word a 1, 2;", 1, 8);
        Due.fault("word a 1 b;", 1, 9);
        Due.fault("word\ta 1;", 1, 4);
        Due.fault("like 1;", 1, 6);
        Due.fault("like 1 2 3;", 1, 9);
        Due.fault("minutes;", 1, 7);
        Due.fault("look any;", 1, 5);
        Due.fault("order a do pass;", 1, 6);
        Due.fault("order 1 do pass;", 1, 8);
        Due.fault("order 1 a pass;", 1, 10);
        Due.fault("order 1 a do;", 1, 12);
        Due.fault("order 1 a do wait;", 1, 17);
        Due.fault("order 1 a do send to 1;", 1, 18);
        Due.fault("order 1 a do send a to any;", 1, 23);
        Due.fault("order 1 a do pass to 1;", 1, 18);
        Due.fault("order 1 a do pass,;", 1, 18);
        Due.fault("order 1 a twice twice do pass;", 1, 16);
        Due.fault("order 1 a do pass, pass, pass, pass, a;", 1, 37);
        Due.fault("pass;", 1, 0);
        Due.part("promise 24, bounds");
        Due.fault("word a 0;", 2, 7);
        Due.fault("word a 1 10;", 2, 9);
        Due.fault("word a 99999999999999999999999;", 2, 7);
        Due.fault("word a 1 2 3 4 5 6;", 2, 17);
        Due.fault("like 10 1;", 2, 5);
        Due.fault("like 1 0;", 2, 7);
        Due.fault("minutes 0;", 2, 8);
        Due.fault("minutes 10;", 2, 8);
        Due.fault("look 31;", 2, 5);
        Due.fault("order 12 a do pass;", 2, 6);
        Due.fault("order 1 a do wait 0;", 2, 18);
        Due.fault("order 1 a do wait 100;", 2, 18);
        Due.fault("order 1 a do send a to 12;", 2, 23);
        Due.fault("order 1 a do pass,pass,pass,pass,stop;", 2, 33);
        Due.fault("like 1 2;".repeat(8) + "like", 2, 72);
        Due.fault("order 1 a do pass;".repeat(16) + "order", 2, 288);
        Due.fault("word a 1;word b 2;word c 3;word d 4;word e 5;word f 6;word g 7;word h 8;word i 9;word j 1 1;word",
                2, 92);
        faultsOfOneText();
    }

    private static void faultsOfOneText() {
        Due.part("promise 24, told already");
        Due.fault("word a 1;word a 1;", 3, 14);
        Due.fault("word a 1;word b 1;", 3, 16);
        Due.fault("word a 1;word b 1", 3, 16);
        Due.fault("word a 1;word b 1 !", 3, 16);
        Due.fault("word a 1;word b 1 10;", 2, 18);
        Due.fault("word a 1 2 3 4 5;word b 1 2 3 4 5 6;", 2, 34);
        Due.clean("word a 1;word b 1 1;word c 1 2;word d 2 1;", 4);
        Due.fault("minutes 1;minutes", 3, 10);
        Due.fault("look 1;look 1;", 3, 7);
        Due.part("promise 24, not told");
        Due.fault("order 1 a do pass;", 4, 8);
        Due.fault("word a 1;order 1 a do send b,send c;", 4, 27);
        Due.fault("order 1 a do send b;word b 1;", 4, 8);
        Due.fault("order 1 a do pass;order 1 b do pass;word a 1;", 4, 26);
        Due.fault("order 1 a do pass;minutes 0;", 2, 26);
        Due.fault("order 1 a do pass; ?", 1, 19);
    }

    private static void promise25Send() {
        Due.part("promise 25");
        FrontierDesk d = row(0, 4, 8, 15);
        d.haze(0, 0, 4, 4);
        d.post(12, 0, 5, 5, false, 0);
        Due.is("no RULES", d.send(0, 0, 0, 0, 9), NONE);
        Due.rules(d, "word a 1;order any a do pass;");
        Due.is("three of four", d.send(0, 0, 0, 0, 9), 3);
        Due.is("from the last, alone", d.send(3, 0, 0, 0, 9), 1);
        Due.is("a clear MONTH", d.send(0, 0, 1, 0, 9), 4);
        Due.is("SUPPOSED", d.send(4, 0, 0, 0, 9), NONE);
        Due.is("no such POST", d.send(5, 0, 0, 0, 9), NONE);
        Due.is("no such POST", d.send(-1, 0, 0, 0, 9), NONE);
        Due.is("no such WORD", d.send(0, 1, 0, 0, 9), NONE);
        Due.is("no such WORD", d.send(0, -1, 0, 0, 9), NONE);
        Due.is("MONTH", d.send(0, 0, 12, 0, 9), NONE);
        Due.is("KIND", d.send(0, 0, 0, 2, 9), NONE);
        Due.is("YEAR", d.send(0, 0, 0, 0, 501), NONE);
        Due.is("YEAR", d.send(0, 0, 0, 0, -1), NONE);
        Due.is("the latest that wasn't NONE stays", d.sent(4), 4);
        d.note(1, 1, 8);
        Due.is("it STOOD no more", d.send(1, 0, 0, 0, 9), NONE);
        Due.is("so none hears", d.send(0, 0, 0, 0, 9), 1);
        d.note(0, 1, 9);
        Due.is("in a QUARREL", d.send(0, 0, 0, 0, 9), NONE);
    }

    private static void promise25SendSpent() {
        Due.part("promise 25, SPENT");
        FrontierDesk d = row(0, 1, 2, 3, 4, 5, 6, 7, 8, 9);
        Due.rules(d, "word a 1;order any a do pass,pass;");
        // 9 and 9 from the first, then 8 and 8 from each of nine others: 162.
        Due.is("162 things", d.send(0, 0, 0, 0, 9), 10);
        Due.is("seen", d.sent(0), 162);
        Due.is("the second ones of those at 3 come at 9", d.sent(1), 9);
        Due.is("orders", d.sent(4), 10);
        Due.rules(d, "word a 1;order any a do pass,pass,pass;");
        // 27 from the first, then 24 from each: 27 + 7 * 24 = 195 is the last that fits.
        Due.is("SPENT", d.send(0, 0, 0, 0, 9), -2);
        Due.is("seen", d.sent(0), 200);
        Due.is("looked at up to minute 3", d.sent(1), 3);
        Due.is("HEARD till then", d.heard(8, 0, 0), 3);
        Due.is("not HEARD any more", d.heard(9, 0, 0), NONE);
        Due.is("the first one's own", d.heard(0, 0, 0), 0);
        Due.is("from nobody else yet", d.heard(0, 0, 3), 0);
    }

    private static void promise26Heard() {
        Due.part("promise 26");
        FrontierDesk d = row(0, 4, 8);
        d.haze(0, 0, 4, 4);
        Due.rules(d, "word a 1 2;word b 3;look 3;minutes 5;order any a do wait 7,pass;"
                + "order 2 a do send b to 1,send b to 0;order 1 b do send a to 1,pass;");
        Due.is("no MESSAGE", d.heard(0, 0, 0), NONE);
        Due.is("send", d.send(0, 0, 0, 0, 9), 3);
        Due.is("the first one at 0", d.heard(0, 0, 0), 0);
        Due.is("from nobody", d.heard(0, 0, 1), NONE);
        Due.is("its own", d.heard(0, 0, 2), 0);
        Due.is("from none", d.heard(0, 0, 3), 0);
        Due.is("wait 7, look 3, twice 5", d.heard(1, 0, 0), 20);
        Due.is("from 0", d.heard(1, 0, 1), 0);
        Due.is("the WORD sent", d.heard(1, 0, 2), 0);
        Due.is("from 0 alone (2 has nobody else to pass it to)", d.heard(1, 0, 3), 1);
        Due.is("20 more", d.heard(2, 0, 0), 40);
        Due.is("from 1", d.heard(2, 0, 1), 1);
        Due.is("0 never hears b", d.heard(0, 1, 0), NONE);
        Due.is("1 neither: 2 did its first order alone", d.heard(1, 1, 0), NONE);
        Due.is("no such POST", d.heard(3, 0, 0), NONE);
        Due.is("no such POST", d.heard(-1, 0, 0), NONE);
        Due.is("no such WORD", d.heard(0, 2, 0), NONE);
        Due.is("no such WORD", d.heard(0, -1, 0), NONE);
        Due.is("no such what", d.heard(0, 0, 4), NONE);
        Due.is("no such what", d.heard(0, 0, -1), NONE);
        lastWordAndPost();
        ordersOnceEach();
        ordersTwice();
        stopping();
    }

    /** Ten WORDS and twelve POSTS: the eleventh WORD is none, at no POST. */
    private static void lastWordAndPost() {
        FrontierDesk d = row(0, 1, 2, 3, 4, 5, 6, 7, 8, 9, 10, 11);
        Due.rules(d, "word a 1;word b 2;word c 3;word d 4;word e 5;word f 6;word g 7;word h 8;word i 9;word j 1 1;"
                + "order any a do send j;");
        Due.is("send", d.send(11, 0, 0, 0, 9), 12);
        for (int p = 0; p < 12; p++) {
            Due.is("the tenth WORD at " + p, d.heard(p, 9, 0), p == 11 ? NONE : 5);
            Due.is("the eleventh WORD at " + p, d.heard(p, 10, 0), NONE);
        }
        Due.is("send of the tenth", d.send(11, 9, 0, 0, 9), 1);
        Due.is("at the twelfth", d.heard(11, 9, 0), 0);
        Due.is("an eleventh", d.heard(10, 10, 0), NONE);
        Due.is("send to 12", d.send(11, 0, 0, 0, 9), 12);
        Due.is("11 seen", d.sent(0), 11);
        Due.is("the first WORD at the first POST", d.send(0, 0, 0, 0, 9), 12);
        Due.is("isn't the eleventh at the one before", d.heard(-1, 10, 0), NONE);
        Due.is("send from 1", d.send(1, 0, 0, 0, 9), 12);
        Due.is("the first at 1 isn't the eleventh at 0", d.heard(0, 10, 0), NONE);
    }

    /** Each order once at a POST, the next one at the next hearing, behind what is still done. */
    private static void ordersOnceEach() {
        FrontierDesk d = row(0, 4);
        Due.rules(d, "word a 1;word b 2;word c 3;look 0;minutes 1;"
                + "order 0 a do send a,send a,send a;"
                + "order any a do wait 50,send b;order any a do send c;");
        Due.is("send", d.send(0, 0, 0, 0, 9), 2);
        // 1 hears a at 1, 2, 3: the first order lasts from 1 to 52, the next one goes from 51 on.
        Due.is("a three times from one POST", d.heard(1, 0, 3), 1);
        Due.is("b is to nobody: 0 is whom it HEARD from", d.heard(0, 1, 0), NONE);
        Due.is("things seen", d.sent(0), 3);
        Due.is("orders", d.sent(4), 3);
        Due.rules(d, "word a 1;word b 2;word c 3;look 0;minutes 1;"
                + "order 0 a do send a,send a,send a,send a;"
                + "order 1 a do wait 50,send b to 0;order any a do send c to 0,send c to 1;");
        Due.is("send", d.send(0, 0, 0, 0, 9), 2);
        Due.is("b at 1 and 50 and 1", d.heard(0, 1, 0), 52);
        Due.is("c behind it", d.heard(0, 2, 0), 53);
        Due.is("to itself isn't joined", d.heard(1, 2, 0), NONE);
        Due.is("orders: 3", d.sent(4), 3);
        Due.is("the last one looked at", d.sent(1), 53);
        Due.is("seen: 4 and 2", d.sent(0), 6);
    }

    private static void ordersTwice() {
        FrontierDesk d = row(0, 4, 8);
        Due.rules(d, "word a 1;word b 2;look 0;minutes 1;order 0 a do send a,send a;"
                + "order 2 a twice do send b;order 1 a do pass;");
        d.send(0, 0, 0, 0, 9);
        // 2 hears a at 1 and 2 from 0 and at 2 from 1, behind it: b goes at 3 to all but 1.
        Due.is("b at 0", d.heard(0, 1, 0), 3);
        Due.is("not to 1", d.heard(1, 1, 0), NONE);
        Due.is("two POSTS", d.heard(2, 0, 3), 2);
        d.haze(0, 0, 4, 4);
        d.send(0, 0, 0, 0, 9);
        Due.is("from one POST alone", d.heard(2, 0, 3), 1);
        Due.is("twice isn't so", d.sent(4), 2);
    }

    private static void stopping() {
        FrontierDesk d = row(0, 4, 8);
        Due.rules(d, "word a 1;word b 2;look 0;minutes 1;order 0 a do send b,send a to 1,send b,send a;"
                + "order 1 b do wait 2,stop,send a to 2;order 2 b do stop,pass;");
        Due.is("send", d.send(0, 0, 0, 0, 9), 3);
        // b at 1 to both; a at 2 to 1; b at 3 to both; a at 4 to both. 1 stops at 3: it still hears a at 2.
        Due.is("before it stops", d.heard(1, 0, 0), 2);
        Due.is("b at 1 from 0, at 2 from 2", d.heard(1, 1, 3), 2);
        Due.is("2 stops at once, but goes on with its order", d.sent(4), 3);
        Due.is("2 hears nothing more", d.heard(2, 0, 0), NONE);
        Due.is("1 passed a to 2 at 4", d.sent(0), 4 + 3 + 1 + 1);
        Due.is("b of 2 reaches 1 at 2", d.heard(1, 1, 0), 1);
        Due.is("from 0 first", d.heard(1, 1, 1), 0);
    }

    private static void promise27Sent() {
        Due.part("promise 27");
        FrontierDesk d = row(0, 4, 8);
        Due.rules(d, "word a 1;word b 2;order any a do pass;");
        Due.is("without", d.sent(0), NONE);
        Due.is("a WORD with no order", d.send(1, 1, 0, 0, 9), 1);
        int[] none = {0, 0, 0, 0, 0};
        for (int what = 0; what < 5; what++) {
            Due.is("sent(" + what + ")", d.sent(what), none[what]);
        }
        d.send(1, 0, 0, 0, 9);
        int[] due = {4, 6, 0, 0, 3};
        for (int what = 0; what < 5; what++) {
            Due.is("sent(" + what + ")", d.sent(what), due[what]);
        }
        Due.is("sent(5)", d.sent(5), NONE);
        Due.is("sent(-1)", d.sent(-1), NONE);
    }

    /** Over a LINK of LEVEL 1 S are READ DIMLY, over one of LEVEL 2 not. */
    private static void promise27SentMisread() {
        Due.part("promise 27, READ DIMLY");
        FrontierDesk d = row(0, 4, 9);
        d.haze(0, 0, 4, 5);
        Due.rules(d, "word a 1 2;word b 3 4;word c 1 4;word e 5;like 3 2;like 2 1;"
                + "order any b do pass;order any a do pass;order any c do pass;order any e do pass;");
        // 3 is LIKE 1 over 2; 2 is LIKE 1: a is read 1 1, which is none; b is read 1 4, which is c.
        Due.is("b from 0 to 2", d.send(0, 1, 0, 0, 9), 3);
        Due.is("clearly to 1", d.heard(1, 1, 0), 5);
        Due.is("dimly to 2 as c", d.heard(2, 2, 0), 10);
        Due.is("sent was b", d.heard(2, 2, 2), 1);
        Due.is("2 didn't hear b", d.heard(2, 1, 0), NONE);
        Due.is("misread", d.sent(2), 1);
        Due.is("read as none", d.sent(3), 0);
        Due.is("a", d.send(0, 0, 0, 0, 9), 2);
        Due.is("misread", d.sent(2), 0);
        Due.is("read as none", d.sent(3), 1);
        Due.is("looked at all the same", d.sent(1), 10);
        Due.is("seen", d.sent(0), 2);
        Due.is("e is read as itself", d.send(0, 3, 0, 0, 9), 3);
        Due.is("misread", d.sent(2), 0);
    }

    private static void promise28Way() {
        Due.part("promise 28");
        FrontierDesk d = new FrontierDesk();
        d.post(0, 0, 1, 1, true, 0);
        d.post(2, 0, 1, 1, false, 0);
        Due.is("two STEPS", d.way(0, 1), 20);
        Due.is("to itself", d.way(1, 1), 0);
        d.ground(2, 0, 2, 0, 7, 2);
        Due.is("7 up into WOOD 2", d.way(0, 1), 20 + 14 + 10);
        Due.is("7 down out of it", d.way(1, 0), 20 + 7);
        d.ground(1, 0, 1, 0, 100, 0);
        Due.is("round the hill", d.way(0, 1), 40 + 14 + 10);
        d.ground(1, 1, 1, 3, 5, 0);
        Due.is("over a low one: 5 up, 5 down, 7 up or 2 up only", d.way(0, 1), 40 + 10 + 5 + 14 + 10);
        d.ground(2, 1, 2, 1, 5, 3);
        Due.is("through WOOD 3 at 5", d.way(0, 1), 40 + 10 + 15 + 4 + 10);
        Due.is("no such", d.way(0, 2), NONE);
        Due.is("no such", d.way(-1, 0), NONE);
        d.dug(1, false);
        Due.is("EMPTY", d.way(0, 1), NONE);
        Due.is("EMPTY to itself", d.way(1, 1), NONE);
        snake();
    }

    /** A way that goes to and fro over the whole LAND between walls. */
    private static void snake() {
        FrontierDesk d = new FrontierDesk();
        d.land(16, 15);
        for (int y = 1; y < 15; y += 2) {
            d.ground(0, y, 15, y, 999, 0);
            int gap = y % 4 == 1 ? 15 : 0;
            d.ground(gap, y, gap, y, 0, 0);
        }
        d.post(0, 0, 1, 1, true, 0);
        d.post(0, 14, 1, 1, true, 0);
        Due.is("eight rows of 15 STEPS and fourteen between", d.way(0, 1), 10 * (8 * 15 + 14));
        Due.is("back", d.way(1, 0), 10 * (8 * 15 + 14));
    }

    private static void promise29Store() {
        Due.part("promise 29");
        FrontierDesk d = row(0);
        d.post(1, 0, 1, 1, false, 0);
        Due.yes("store(0, 9999)", d.store(0, 9999));
        Due.is("STORE", d.look(0, 4), 9999);
        Due.yes("store(0, 0)", d.store(0, 0));
        Due.is("STORE", d.look(0, 4), 0);
        Due.no("store(0, 10000)", d.store(0, 10000));
        Due.no("store(0, -1)", d.store(0, -1));
        Due.no("SUPPOSED", d.store(1, 1));
        Due.no("no such", d.store(2, 1));
        Due.no("no such", d.store(-1, 1));
        Due.is("STORE", d.look(0, 4), 0);
        d.dug(1, false);
        Due.no("EMPTY", d.store(1, 1));
    }

    private static void promise30Supply() {
        Due.part("promise 30");
        FrontierDesk d = new FrontierDesk();
        d.land(16, 4);
        d.post(0, 0, 1, 1, true, 10);
        d.post(4, 0, 1, 1, true, 20);
        d.post(8, 0, 1, 1, true, 5);
        d.post(9, 0, 1, 1, false, 50);
        Due.is("supply(0)", d.supply(0), NONE);
        Due.is("supply(100)", d.supply(100), NONE);
        Due.is("supply(-1)", d.supply(-1), NONE);
        Due.is("no STORE at all", d.supply(99), 0);
        d.store(0, 100);
        d.store(2, 30);
        // 0 feeds itself 20, 2 itself 10; then of two ways of 40 that from 0: 40, so 1 wants no more.
        Due.is("supply(2)", d.supply(2), 40 * 40);
        Due.is("STORE of 0", d.look(0, 4), 40);
        Due.is("STORE of 2", d.look(2, 4), 20);
        // 0: 30 to itself, 2: 15 to itself, 10 from 0 to 1, then 5 from 2 to 1: 45 are lacking.
        Due.is("supply(3)", d.supply(3), 15 * 40);
        Due.is("STORE of 0", d.look(0, 4), 0);
        Due.is("STORE of 2", d.look(2, 4), 0);
        d.ground(1, 0, 3, 3, 0, 3);
        d.store(0, 10);
        d.store(2, 50);
        d.store(1, 1);
        Due.is("the nearer one first: 19 from 2", d.supply(1), 19 * 40);
        Due.is("STORE of 2", d.look(2, 4), 50 - 5 - 19);
        manyCarriers();
    }

    /** Twelve that feed themselves first, and then six with a little more for six with a little less. */
    private static void manyCarriers() {
        FrontierDesk d = new FrontierDesk();
        d.land(16, 4);
        for (int p = 0; p < 12; p++) {
            d.post(p, 0, 1, 1, true, 10);
            d.store(p, p < 6 ? 13 + p : 9 - p % 6);
        }
        // 13 .. 18 and 9 .. 4 are 132, 120 are eaten. 5 gives 6 one of its 8, 7 two, 8 three, 9 two;
        // 4 gives 9 two, 10 five; 3 gives 11 six; then all have what they want.
        int cost = 10 * (1 + 2 * 2 + 3 * 3 + 2 * 4 + 2 * 5 + 5 * 6 + 6 * 8);
        Due.is("supply(1)", d.supply(1), cost);
        int[] left = {3, 4, 5, 0, 0, 0, 0, 0, 0, 0, 0, 0};
        for (int p = 0; p < 12; p++) {
            Due.is("STORE of " + p, d.look(p, 4), left[p]);
            Due.is("lacking at " + p, d.supplied(p, 1), 0);
            Due.is("came to " + p, d.supplied(p, 0), 10);
            Due.is("first from itself at " + p, d.supplied(p, 2), p);
        }
    }

    private static void promise31Supplied() {
        Due.part("promise 31");
        FrontierDesk d = new FrontierDesk();
        d.land(16, 4);
        d.post(0, 0, 1, 1, true, 10);
        d.post(4, 0, 1, 1, true, 20);
        d.post(8, 0, 1, 1, true, 0);
        d.post(9, 0, 1, 1, false, 50);
        d.post(10, 0, 1, 1, false, 50);
        d.dug(4, false);
        Due.is("none was", d.supplied(0, 0), NONE);
        Due.is("refused", d.supply(0), NONE);
        Due.is("none was yet", d.supplied(0, 0), NONE);
        d.store(0, 15);
        d.store(2, 7);
        Due.is("supply", d.supply(1), 5 * 40 + 7 * 40);
        int[][] due = {{10, 0, 0}, {12, 8, 0}, {0, 0, NONE}, {0, 0, NONE}, {NONE, NONE, NONE}, {NONE, NONE, NONE}};
        for (int p = 0; p < 6; p++) {
            for (int what = 0; what < 3; what++) {
                Due.is("supplied(" + p + ", " + what + ")", d.supplied(p, what), due[p][what]);
            }
        }
        Due.is("no such", d.supplied(-1, 0), NONE);
        Due.is("what 3", d.supplied(0, 3), NONE);
        Due.is("what -1", d.supplied(0, -1), NONE);
        d.post(12, 0, 1, 1, true, 0);
        Due.is("there was no such POST then", d.supplied(5, 0), NONE);
        d.dug(3, false);
        Due.is("it was SUPPOSED then", d.supplied(3, 0), 0);
        Due.is("refused", d.supply(100), NONE);
        Due.is("the latest stays", d.supplied(1, 0), 12);
        d.supply(1);
        Due.is("now it was EMPTY", d.supplied(3, 0), NONE);
        Due.is("nothing came", d.supplied(1, 0), 0);
        Due.is("all lacks", d.supplied(1, 1), 20);
        Due.is("from nobody", d.supplied(1, 2), NONE);
    }

    private static void promise32Look() {
        Due.part("promise 32");
        FrontierDesk d = new FrontierDesk();
        d.land(16, 10);
        d.post(15, 9, 3, 40, true, 50);
        d.post(0, 1, 1, 2, false, 7);
        d.store(0, 12);
        int[] first = {15, 9, 0, 50, 12, 3, 40};
        int[] second = {0, 1, 1, 7, 0, 1, 2};
        for (int what = 0; what < 7; what++) {
            Due.is("look(0, " + what + ")", d.look(0, what), first[what]);
            Due.is("look(1, " + what + ")", d.look(1, what), second[what]);
        }
        d.dug(1, false);
        Due.is("EMPTY", d.look(1, 2), 2);
        Due.is("its CELL", d.look(1, 1), 1);
        Due.is("what 7", d.look(0, 7), NONE);
        Due.is("what -1", d.look(0, -1), NONE);
        Due.is("no such", d.look(2, 0), NONE);
        Due.is("no such", d.look(-1, 0), NONE);
    }

    private static void promise33Count() {
        Due.part("promise 33");
        FrontierDesk d = new FrontierDesk();
        d.land(7, 9);
        d.post(0, 0, 1, 1, false, 0);
        d.post(1, 0, 1, 1, true, 0);
        d.dug(0, false);
        d.note(0, 0, 1);
        d.strike(0);
        d.strike(0);
        Due.rules(d, "word a 1;word b 2;word c 3;word d 4;minutes 7;look 8;" + "order any a do stop;".repeat(5));
        int[] due = {7, 9, 2, 3, 4, 5, 7, 8};
        for (int what = 0; what < 8; what++) {
            Due.is("count(" + what + ")", d.count(what), due[what]);
        }
        Due.is("count(8)", d.count(8), NONE);
        Due.is("count(-1)", d.count(-1), NONE);
    }
}
