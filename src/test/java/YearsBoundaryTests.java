import java.util.Arrays;

/** The boundary cases of years and NOTES: part 2 of "Terms", promises 11 to 15. */
public final class YearsBoundaryTests {
    private static final int NONE = FrontierDesk.NONE;
    private static final int LEAST = Integer.MIN_VALUE;
    private static final int MOST = Integer.MAX_VALUE;

    private static final int TILE = 0;
    private static final int BURNT = 1;
    private static final int STONES = 2;
    private static final int SIGNALLED = 3;
    private static final int COIN = 4;
    private static final int NOT_YET = 5;

    private YearsBoundaryTests() {
    }

    public static void main(String[] args) {
        yearsFrom0To500();
        beginAtMostEnd();
        mostNotes();
        tiles();
        burnt();
        stones();
        signalled();
        coins();
        notYet();
        strikesAreNotes();
        knownByN();
        struckStrikes();
        leastAndGreatest();
        quarrels();
        stoodSurely();
        stoodMaybe();
        stoodInAQuarrel();
        promise11Refused();
        promise12Refused();
        promise13Refused();
        promise14Quarrel();
        promise15Refused();
        Due.end();
    }

    /** So many POSTS, FOUND, in a row. */
    private static FrontierDesk posts(int n) {
        FrontierDesk d = new FrontierDesk();
        d.land(16, 4);
        for (int p = 0; p < n; p++) {
            Due.is("post", d.post(p, 0, 1, 1, true, 0), p);
        }
        return d;
    }

    private static void tell(FrontierDesk d, int sort, int a, int b) {
        int number = d.count(3);
        Due.is("note(" + sort + ", " + a + ", " + b + ")", d.note(sort, a, b), number);
    }

    /** All four years of a POST as KNOWN by all NOTES. */
    private static void years(FrontierDesk d, int post, int... due) {
        int n = d.count(3);
        for (int what = 0; what < 4; what++) {
            Due.is("years(" + post + ", " + n + ", " + what + ")", d.years(post, n, what), due[what]);
        }
    }

    private static void quarrel(FrontierDesk d) {
        Due.is("a QUARREL", d.quarrel(), d.count(3));
        Due.is("no years", d.years(0, d.count(3), 0), NONE);
    }

    // ---- Terms

    private static void yearsFrom0To500() {
        Due.sentence("YEARS 0 .. 500.");
        FrontierDesk d = posts(1);
        years(d, 0, 0, 500, 0, 500);
        for (int sort : new int[] {TILE, BURNT, COIN, NOT_YET}) {
            for (int year : new int[] {LEAST, -500, -1, 501, 502, 65536, MOST}) {
                Due.is("note(" + sort + ", 0, " + year + ")", d.note(sort, 0, year), NONE);
            }
            for (int year : new int[] {0, 1, 499, 500}) {
                FrontierDesk e = posts(1);
                tell(e, sort, 0, year);
                Due.is("no QUARREL", e.quarrel(), NONE);
            }
        }
        Due.is("none came", d.count(3), 0);
        Due.is("YEAR 0", d.stood(0, 0, 0), 1);
        Due.is("YEAR 500", d.stood(0, 500, 0), 1);
        Due.is("YEAR -1", d.stood(0, -1, 0), NONE);
        Due.is("YEAR 501", d.stood(0, 501, 0), NONE);
        Due.is("LINE in YEAR 0", d.groups(0, 0, 0, 1), 1);
        Due.is("LINE in YEAR 500", d.groups(0, 0, 500, 1), 1);
        Due.is("LINE in YEAR -1", d.groups(0, 0, -1, 1), NONE);
        Due.is("LINE in YEAR 501", d.groups(0, 0, 501, 1), NONE);
    }

    private static void beginAtMostEnd() {
        Due.sentence("Each POST (EMPTY too) had a BEGIN and an END, BEGIN at most END.");
        for (int kind = 0; kind < 3; kind++) {
            FrontierDesk d = new FrontierDesk();
            d.post(0, 0, 1, 1, kind == 0, 0);
            if (kind == 2) {
                d.dug(0, false);
            }
            years(d, 0, 0, 500, 0, 500);
            tell(d, NOT_YET, 0, 100);
            years(d, 0, 100, 500, 100, 500);
            tell(d, BURNT, 0, 100);
            years(d, 0, 100, 100, 100, 100);
            Due.is("just one YEAR is no QUARREL", d.quarrel(), NONE);
            tell(d, NOT_YET, 0, 101);
            quarrel(d);
        }
        FrontierDesk d = posts(1);
        tell(d, BURNT, 0, 0);
        years(d, 0, 0, 0, 0, 0);
        FrontierDesk e = posts(1);
        tell(e, NOT_YET, 0, 500);
        years(e, 0, 500, 500, 500, 500);
    }

    private static void mostNotes() {
        Due.sentence("NOTES, at most 60, numbered from 0 on");
        FrontierDesk d = posts(2);
        for (int i = 0; i < 60; i++) {
            Due.is("NOTES", d.count(3), i);
            Due.is("NOTE " + i, i % 3 == 2 ? d.strike(i - 1) : d.note(i % 2 == 0 ? TILE : SIGNALLED, 0, 1), i);
        }
        for (int sort = 0; sort < 6; sort++) {
            Due.is("a 61st of sort " + sort, d.note(sort, 0, 1), NONE);
        }
        Due.is("a 61st by strike", d.strike(0), NONE);
        Due.is("60 NOTES", d.count(3), 60);
        Due.is("as KNOWN by 60", d.years(0, 60, 1), 1);
        Due.is("not by 61", d.years(0, 61, 1), NONE);
        d.land(16, 4);
        d.post(0, 0, 1, 1, true, 0);
        Due.is("from 0 on again", d.note(TILE, 0, 1), 0);
    }

    private static void tiles() {
        Due.sentence("0 TILE (POST a, YEAR y): BEGIN of a is at most y, END at least y");
        FrontierDesk d = posts(2);
        tell(d, TILE, 0, 100);
        years(d, 0, 0, 100, 100, 500);
        years(d, 1, 0, 500, 0, 500);
        tell(d, TILE, 0, 99);
        years(d, 0, 0, 99, 100, 500);
        tell(d, TILE, 0, 101);
        years(d, 0, 0, 99, 101, 500);
        FrontierDesk e = posts(1);
        tell(e, TILE, 0, 0);
        years(e, 0, 0, 0, 0, 500);
        tell(e, TILE, 0, 500);
        years(e, 0, 0, 0, 500, 500);
    }

    private static void burnt() {
        Due.sentence("1 BURNT (a, y): END is y");
        FrontierDesk d = posts(2);
        tell(d, BURNT, 0, 100);
        years(d, 0, 0, 100, 100, 100);
        years(d, 1, 0, 500, 0, 500);
        tell(d, BURNT, 0, 100);
        Due.is("twice the same YEAR", d.quarrel(), NONE);
        tell(d, BURNT, 0, 101);
        quarrel(d);
        FrontierDesk e = posts(1);
        tell(e, BURNT, 0, 500);
        years(e, 0, 0, 500, 500, 500);
    }

    private static void stones() {
        Due.sentence("2 STONES (a, another POST b): BEGIN of a is at least END of b");
        FrontierDesk d = posts(2);
        tell(d, STONES, 0, 1);
        years(d, 0, 0, 500, 0, 500);
        tell(d, COIN, 1, 100);
        years(d, 0, 100, 500, 100, 500);
        years(d, 1, 0, 500, 100, 500);
        tell(d, TILE, 0, 100);
        years(d, 0, 100, 100, 100, 500);
        years(d, 1, 0, 100, 100, 100);
        Due.is("just in the same YEAR", d.quarrel(), NONE);
        tell(d, COIN, 1, 101);
        quarrel(d);
        Due.is("another POST than itself", d.note(STONES, 0, 0), NONE);
    }

    private static void signalled() {
        Due.sentence("3 SIGNALLED (a, b): BEGIN of a at most END of b, BEGIN of b at most END of a");
        for (int a = 0; a < 2; a++) {
            FrontierDesk d = posts(2);
            tell(d, SIGNALLED, a, 1 - a);
            years(d, 0, 0, 500, 0, 500);
            tell(d, BURNT, 0, 100);
            years(d, 0, 0, 100, 100, 100);
            years(d, 1, 0, 100, 0, 500);
            tell(d, NOT_YET, 1, 100);
            years(d, 1, 100, 100, 100, 500);
            Due.is("just in the same YEAR", d.quarrel(), NONE);
            tell(d, NOT_YET, 1, 101);
            quarrel(d);
            FrontierDesk e = posts(2);
            tell(e, SIGNALLED, a, 1 - a);
            tell(e, NOT_YET, 0, 100);
            years(e, 1, 0, 500, 100, 500);
            tell(e, BURNT, 1, 99);
            quarrel(e);
        }
        Due.is("another POST than itself", posts(1).note(SIGNALLED, 0, 0), NONE);
    }

    private static void coins() {
        Due.sentence("4 COIN (a, y): END at least y");
        FrontierDesk d = posts(2);
        tell(d, COIN, 0, 0);
        years(d, 0, 0, 500, 0, 500);
        tell(d, COIN, 0, 100);
        years(d, 0, 0, 500, 100, 500);
        tell(d, COIN, 0, 99);
        years(d, 0, 0, 500, 100, 500);
        tell(d, BURNT, 0, 100);
        years(d, 0, 0, 100, 100, 100);
        tell(d, COIN, 0, 101);
        quarrel(d);
        FrontierDesk e = posts(1);
        tell(e, COIN, 0, 500);
        years(e, 0, 0, 500, 500, 500);
    }

    private static void notYet() {
        Due.sentence("5 NOT YET (a, y): BEGIN at least y");
        FrontierDesk d = posts(2);
        tell(d, NOT_YET, 0, 0);
        years(d, 0, 0, 500, 0, 500);
        tell(d, NOT_YET, 0, 100);
        years(d, 0, 100, 500, 100, 500);
        tell(d, NOT_YET, 0, 99);
        years(d, 0, 100, 500, 100, 500);
        tell(d, TILE, 0, 100);
        years(d, 0, 100, 100, 100, 500);
        tell(d, NOT_YET, 0, 101);
        quarrel(d);
    }

    private static void strikesAreNotes() {
        Due.sentence("To STRIKE a NOTE is a NOTE, too.");
        FrontierDesk d = posts(1);
        tell(d, BURNT, 0, 100);
        Due.is("its number", d.strike(0), 1);
        Due.is("two NOTES", d.count(3), 2);
        Due.is("the next one's number", d.note(COIN, 0, 7), 2);
        Due.is("it may be STRUCK", d.strike(1), 3);
        Due.is("again", d.strike(1), 4);
        Due.is("KNOWN by n counts it", d.years(0, 2, 3), 500);
    }

    private static void knownByN() {
        Due.sentence("As KNOWN by n: the first n NOTES, without those STRUCK by one of these");
        FrontierDesk d = posts(1);
        tell(d, TILE, 0, 100);
        tell(d, BURNT, 0, 200);
        Due.is("strike(0)", d.strike(0), 2);
        tell(d, COIN, 0, 150);
        Due.is("strike(1)", d.strike(1), 4);
        int[][] due = {{0, 500, 0, 500}, {0, 100, 100, 500}, {0, 100, 200, 200}, {0, 200, 200, 200},
            {0, 200, 200, 200}, {0, 500, 150, 500}};
        for (int round = 0; round < 2; round++) {
            for (int n = 0; n <= 5; n++) {
                for (int what = 0; what < 4; what++) {
                    Due.is("by " + n + ", what " + what, d.years(0, n, what), due[n][what]);
                }
            }
            for (int n = 5; n >= 0; n--) {
                Due.is("backward, by " + n, d.years(0, n, 3), due[n][3]);
            }
        }
    }

    private static void struckStrikes() {
        Due.sentence("(a STRIKE may be STRUCK: then it doesn't count; asked from the last one on)");
        FrontierDesk d = posts(1);
        tell(d, BURNT, 0, 100);
        // A chain up to the last NOTE that there can be: each STRIKES the one before.
        for (int i = 1; i < 60; i++) {
            Due.is("strike", d.strike(i - 1), i);
        }
        for (int n = 1; n <= 60; n++) {
            Due.is("as KNOWN by " + n, d.years(0, n, 3), n % 2 == 1 ? 100 : 500);
        }
        FrontierDesk e = posts(1);
        tell(e, BURNT, 0, 100);
        e.strike(0);
        e.strike(0);
        e.strike(1);
        Due.is("the second STRIKE still counts", e.years(0, 4, 3), 500);
        e.strike(2);
        Due.is("now none does", e.years(0, 5, 3), 100);
        e.strike(4);
        Due.is("the last one STRUCK: the second counts again", e.years(0, 6, 3), 500);
    }

    private static void leastAndGreatest() {
        Due.sentence("Over all BEGINS and ENDS with which all NOTES hold: the least and the greatest of each.");
        FrontierDesk d = posts(12);
        for (int p = 0; p < 11; p++) {
            tell(d, STONES, p, p + 1);
        }
        tell(d, NOT_YET, 11, 1);
        tell(d, BURNT, 0, 499);
        for (int p = 1; p < 12; p++) {
            years(d, p, 1, 499, 1, 499);
        }
        years(d, 0, 1, 499, 499, 499);
        FrontierDesk e = posts(12);
        for (int p = 0; p < 12; p++) {
            tell(e, STONES, p, (p + 1) % 12);
        }
        tell(e, COIN, 5, 7);
        tell(e, TILE, 9, 300);
        for (int p = 0; p < 12; p++) {
            years(e, p, 300, 300, 300, 300);
        }
        // Bounds that go on from NOTE to NOTE against the order in which they were told, and one at
        // the end that changes nothing.
        for (int up = 0; up < 2; up++) {
            FrontierDesk f = posts(12);
            for (int i = 0; i < 9; i++) {
                int p = up == 0 ? i : 8 - i;
                tell(f, STONES, p, p + 1);
            }
            tell(f, SIGNALLED, 10, 11);
            tell(f, NOT_YET, 9, 200);
            tell(f, BURNT, 0, 300);
            for (int p = 1; p < 10; p++) {
                years(f, p, 200, 300, 200, 300);
            }
            years(f, 0, 200, 300, 300, 300);
            years(f, 10, 0, 500, 0, 500);
            tell(f, SIGNALLED, 11, 10);
            years(f, 5, 200, 300, 200, 300);
        }
    }

    private static void quarrels() {
        Due.sentence("A QUARREL as KNOWN by n: there are none such.");
        FrontierDesk d = posts(3);
        tell(d, STONES, 0, 1);
        tell(d, STONES, 1, 2);
        tell(d, STONES, 2, 0);
        Due.is("all in one YEAR", d.quarrel(), NONE);
        tell(d, TILE, 0, 250);
        years(d, 2, 250, 250, 250, 250);
        tell(d, NOT_YET, 1, 251);
        quarrel(d);
        Due.is("as KNOWN by one less", d.years(2, 4, 0), 250);
        Due.is("of another POST, too", d.years(2, 5, 0), NONE);
    }

    private static FrontierDesk stoodFrom() {
        FrontierDesk d = posts(2);
        tell(d, NOT_YET, 0, 90);
        tell(d, TILE, 0, 100);
        tell(d, TILE, 0, 110);
        tell(d, BURNT, 1, 120);
        tell(d, STONES, 1, 0);
        return d;
    }

    private static void stoodSurely() {
        Due.sentence("SURELY (2): the greatest BEGIN is at most y and the least END at least y");
        FrontierDesk d = stoodFrom();
        years(d, 0, 90, 100, 110, 120);
        Due.is("one YEAR before", d.stood(0, 99, 5), 1);
        Due.is("the greatest BEGIN", d.stood(0, 100, 5), 2);
        Due.is("the least END", d.stood(0, 110, 5), 2);
        Due.is("one YEAR behind", d.stood(0, 111, 5), 1);
        FrontierDesk e = posts(1);
        tell(e, TILE, 0, 0);
        tell(e, TILE, 0, 500);
        Due.is("YEAR 0", e.stood(0, 0, 2), 2);
        Due.is("YEAR 500", e.stood(0, 500, 2), 2);
        Due.is("YEAR 0 by one", e.stood(0, 0, 1), 2);
        Due.is("YEAR 1 by one", e.stood(0, 1, 1), 1);
    }

    private static void stoodMaybe() {
        Due.sentence("MAYBE (1): so are the least BEGIN and the greatest END; else 0.");
        FrontierDesk d = stoodFrom();
        Due.is("one YEAR before", d.stood(0, 89, 5), 0);
        Due.is("the least BEGIN", d.stood(0, 90, 5), 1);
        Due.is("the greatest END", d.stood(0, 120, 5), 1);
        Due.is("one YEAR behind", d.stood(0, 121, 5), 0);
        Due.is("YEAR 0", d.stood(0, 0, 5), 0);
        Due.is("YEAR 500", d.stood(0, 500, 5), 0);
    }

    private static void stoodInAQuarrel() {
        Due.sentence("(In a QUARREL 0.)");
        FrontierDesk d = stoodFrom();
        tell(d, NOT_YET, 0, 101);
        Due.is("of the POST", d.stood(0, 105, 6), 0);
        Due.is("of another POST", d.stood(1, 120, 6), 0);
        Due.is("not by one less", d.stood(0, 105, 5), 2);
        Due.is("nobody stands in the LINE", d.groups(0, 0, 105, 1), 0);
        Due.is("no CUTS", d.cuts(0, 0, 105, 1), 0);
        Due.is("nothing to JOIN", d.join(0, 0, 105, 1), 0);
        d.strike(5);
        Due.is("the QUARREL ends", d.stood(0, 105, 7), 2);
        Due.is("they stand again", d.groups(0, 0, 110, 1), 1);
    }

    // ---- Promises

    private static void promise11Refused() {
        Due.sentence("NONE: no such sort, POSTS (of two not the same), YEAR, or there are 60.");
        int[][] wrong = {{-1, 0, 1}, {6, 0, 1}, {7, 0, 1}, {LEAST, 0, 1}, {MOST, 0, 1}};
        for (int[] w : wrong) {
            Story.refuses("note" + Arrays.toString(w), d -> d.note(w[0], w[1], w[2]));
        }
        for (int sort = 0; sort < 6; sort++) {
            int s = sort;
            for (int a : new int[] {-1, Story.POSTS, 12, LEAST, MOST}) {
                Story.refuses("note(" + s + ", " + a + ", 1)", d -> d.note(s, a, 1));
            }
            boolean two = s == STONES || s == SIGNALLED;
            int[] seconds = two ? new int[] {-1, 0, Story.POSTS, 12, LEAST, MOST} : new int[] {-1, 501, LEAST, MOST};
            for (int b : seconds) {
                Story.refuses("note(" + s + ", 0, " + b + ")", d -> d.note(s, 0, b));
            }
            FrontierDesk d = Story.told();
            Due.is("the last POST, the last one to name", d.note(s, Story.POSTS - 1, two ? 0 : 500), Story.NOTES);
            Due.is("the first POST, the last one to name", d.note(s, 0, two ? Story.POSTS - 1 : 0), Story.NOTES + 1);
            Due.is("an EMPTY POST", d.note(s, 5, two ? 6 : 1), Story.NOTES + 2);
        }
    }

    private static void promise12Refused() {
        Due.sentence("A NOTE is STRUCK: this NOTE's number; NONE: no such one, or there are 60.");
        for (int note : new int[] {-1, Story.NOTES, Story.NOTES + 1, 60, LEAST, MOST}) {
            Story.refuses("strike(" + note + ")", d -> d.strike(note));
        }
        Due.is("the last one", Story.told().strike(Story.NOTES - 1), Story.NOTES);
        Due.is("the first one", Story.told().strike(0), Story.NOTES);
        FrontierDesk d = posts(1);
        Due.is("none to STRIKE", d.strike(0), NONE);
        tell(d, BURNT, 0, 100);
        Due.is("not itself", d.strike(1), NONE);
        for (int i = 1; i < 60; i++) {
            tell(d, TILE, 0, 100);
        }
        Due.is("there are 60", d.strike(0), NONE);
        Due.is("nothing is STRUCK", d.years(0, 60, 3), 100);
    }

    private static void promise13Refused() {
        Due.sentence("NONE: no such POST, n, what, or a QUARREL.");
        int all = Story.NOTES;
        int[][] wrong = {{-1, 0, 0}, {Story.POSTS, 0, 0}, {12, 0, 0}, {0, -1, 0}, {0, all + 1, 0}, {0, 0, -1}, {0, 0, 4},
            {LEAST, 0, 0}, {MOST, 0, 0}, {0, LEAST, 0}, {0, MOST, 0}, {0, 0, LEAST}, {0, 0, MOST}};
        for (int[] w : wrong) {
            Story.refuses("years" + Arrays.toString(w), d -> d.years(w[0], w[1], w[2]));
        }
        FrontierDesk d = Story.told();
        Due.is("the last POST, n, what", d.years(Story.POSTS - 1, all, 3), 500);
        Due.is("the first ones", d.years(0, 0, 0), 0);
        Due.is("an EMPTY POST", d.years(5, all, 3), 500);
        tell(d, BURNT, 0, 99);
        for (int what = 0; what < 4; what++) {
            Due.is("in a QUARREL", d.years(3, all + 1, what), NONE);
        }
        Due.is("not by one less", d.years(0, all, 2), 100);
    }

    private static void promise14Quarrel() {
        Due.sentence("The least n, up to all NOTES, as KNOWN by which there is a QUARREL; NONE: there is none at all.");
        FrontierDesk d = posts(1);
        Due.is("no NOTES", d.quarrel(), NONE);
        tell(d, TILE, 0, 500);
        Due.is("one NOTE", d.quarrel(), NONE);
        tell(d, BURNT, 0, 499);
        Due.is("the least there can be", d.quarrel(), 2);
        for (int i = 2; i < 60; i++) {
            Due.is("strike", d.strike(i == 2 ? 0 : 1), i);
        }
        Due.is("still, by 2", d.quarrel(), 2);
        Due.is("though not by 3", d.years(0, 3, 3), 499);
        FrontierDesk e = posts(1);
        for (int i = 0; i < 59; i++) {
            tell(e, TILE, 0, 100 + i);
            Due.is("none up to " + (i + 1), e.quarrel(), NONE);
        }
        tell(e, NOT_YET, 0, 101);
        Due.is("the greatest there can be", e.quarrel(), 60);
        FrontierDesk f = posts(1);
        tell(f, TILE, 0, 100);
        f.strike(0);
        tell(f, BURNT, 0, 99);
        Due.is("none with what was STRUCK before", f.quarrel(), NONE);
        f.strike(1);
        Due.is("as soon as the STRIKE is STRUCK", f.quarrel(), 4);
    }

    private static void promise15Refused() {
        Due.sentence("Whether a POST STOOD in a YEAR as KNOWN by n (2, 1, 0); NONE: no such ones.");
        int all = Story.NOTES;
        int[][] wrong = {{-1, 9, 0}, {Story.POSTS, 9, 0}, {12, 9, 0}, {0, -1, 0}, {0, 501, 0}, {0, 9, -1}, {0, 9, all + 1},
            {LEAST, 9, 0}, {MOST, 9, 0}, {0, LEAST, 0}, {0, MOST, 0}, {0, 9, LEAST}, {0, 9, MOST}};
        for (int[] w : wrong) {
            Story.refuses("stood" + Arrays.toString(w), d -> d.stood(w[0], w[1], w[2]));
        }
        FrontierDesk d = Story.told();
        Due.is("SURELY", d.stood(0, 100, all), 2);
        Due.is("MAYBE", d.stood(0, 500, all), 1);
        Due.is("not", d.stood(1, 201, all), 0);
        Due.is("the last POST, YEAR, n", d.stood(Story.POSTS - 1, 500, all), 1);
        Due.is("the first POST, YEAR, n", d.stood(0, 0, 0), 1);
        Due.is("an EMPTY POST", d.stood(5, 0, 0), 1);
    }
}
