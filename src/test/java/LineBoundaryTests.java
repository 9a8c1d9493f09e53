import java.util.Arrays;

/** The boundary cases of the LINE OF POSTS, of what is JOINED and dug: part 3 of "Terms", promises 16 to 21. */
public final class LineBoundaryTests {
    private static final int NONE = FrontierDesk.NONE;
    private static final int LEAST = Integer.MIN_VALUE;
    private static final int MOST = Integer.MAX_VALUE;

    private LineBoundaryTests() {
    }

    public static void main(String[] args) {
        levels();
        membersOfTheLine();
        asKnownByAll();
        joinedByLinks();
        groupsByRows();
        cutsMakeMoreGroups();
        fewestToJoin();
        supposedThatStoodSo();
        allRivals();
        sharesOfRivals();
        whereToDig();
        promise16And17Refused();
        promise17Bits();
        promise18Nought();
        promise18Refused();
        promise18NoSet();
        promise19AsItWasThen();
        promise19AnyPost();
        promise19Rising();
        promise19Refused();
        promise20Refused();
        promise21Dug();
        promise21Refused();
        Due.end();
    }

    /** POSTS at y 0 of a LAND of 16 by 4; smoke of MONTH 0 is seen so far. */
    private static FrontierDesk row(int reach, int... xs) {
        FrontierDesk d = new FrontierDesk();
        d.land(16, 4);
        d.haze(0, 0, reach, reach);
        for (int x : xs) {
            d.post(x, 0, 1, 1, true, 0);
        }
        return d;
    }

    private static final int[] TWELVE = {0, 1, 2, 3, 4, 5, 6, 7, 8, 9, 10, 11};

    // ---- Terms

    private static void levels() {
        Due.sentence("at a LEVEL (1, 2)");
        FrontierDesk d = row(1, 0, 1);
        d.note(0, 0, 9);
        d.note(0, 1, 9);
        for (int level : new int[] {LEAST, -2, -1, 0, 3, 4, 257, MOST}) {
            Due.is("groups at " + level, d.groups(0, 0, 9, level), NONE);
            Due.is("cuts at " + level, d.cuts(0, 0, 9, level), NONE);
            Due.is("join at " + level, d.join(0, 0, 9, level), NONE);
        }
        Due.is("groups at 1", d.groups(0, 0, 9, 1), 1);
        Due.is("groups at 2", d.groups(0, 0, 9, 2), 1);
        Due.is("join at 1", d.join(0, 0, 9, 1), 0);
        Due.is("join at 2", d.join(0, 0, 9, 2), 0);
    }

    private static void membersOfTheLine() {
        Due.sentence("POSTS that are FOUND and STOOD in that YEAR (as KNOWN by all NOTES) at that LEVEL at least");
        FrontierDesk d = row(1, 0);
        d.note(5, 0, 90);
        d.note(0, 0, 100);
        d.note(0, 0, 110);
        d.note(3, 0, 0);
        d.note(1, 0, 120);
        int[][] due = {{89, 0, 0}, {90, 1, 0}, {99, 1, 0}, {100, 1, 1}, {120, 1, 1}, {121, 0, 0}, {0, 0, 0}, {500, 0, 0}};
        for (int[] y : due) {
            Due.is("LEVEL 1 in " + y[0], d.groups(0, 0, y[0], 1), y[1]);
            Due.is("LEVEL 2 in " + y[0], d.groups(0, 0, y[0], 2), y[2]);
        }
        FrontierDesk e = row(1);
        e.post(0, 0, 1, 1, false, 0);
        e.post(5, 0, 1, 1, false, 0);
        e.note(0, 0, 9);
        e.note(0, 1, 9);
        Due.is("SUPPOSED ones are not in it", e.groups(0, 0, 9, 1), 0);
        e.dug(0, false);
        Due.is("nor are EMPTY ones", e.groups(0, 0, 9, 1), 0);
        e.dug(1, true);
        Due.is("one that was FOUND by digging is", e.groups(0, 0, 9, 2), 1);
    }

    private static void asKnownByAll() {
        Due.sentence("(as KNOWN by all NOTES)");
        FrontierDesk d = row(1, 0);
        for (int i = 0; i < 59; i++) {
            d.note(0, 0, 100);
        }
        Due.is("before the last NOTE", d.groups(0, 0, 200, 1), 1);
        d.note(1, 0, 150);
        Due.is("the 60th counts", d.groups(0, 0, 200, 1), 0);
        Due.is("up to its YEAR", d.groups(0, 0, 150, 1), 1);
        Due.is("what was asked by less before changes nothing", d.years(0, 1, 3), 500);
        Due.is("the 60th still counts", d.groups(0, 0, 200, 1), 0);
    }

    private static void joinedByLinks() {
        Due.sentence("two of them joined if they are LINKED at that LEVEL at least");
        FrontierDesk d = row(5, 0, 5);
        d.note(0, 0, 9);
        d.note(0, 1, 9);
        Due.is("LINKED at 2, LEVEL 2", d.groups(0, 0, 9, 2), 1);
        Due.is("LINKED at 2, LEVEL 1", d.groups(0, 0, 9, 1), 1);
        d.haze(0, 0, 4, 5);
        Due.is("LINKED at 1, LEVEL 2", d.groups(0, 0, 9, 2), 2);
        Due.is("LINKED at 1, LEVEL 1", d.groups(0, 0, 9, 1), 1);
        d.haze(0, 0, 4, 4);
        Due.is("not LINKED, LEVEL 1", d.groups(0, 0, 9, 1), 2);
        Due.is("another KIND", d.groups(0, 1, 9, 2), 1);
        Due.is("another MONTH", d.groups(11, 0, 9, 2), 1);
    }

    private static void groupsByRows() {
        Due.sentence("GROUPS: of those joined by rows of such.");
        Due.is("no POSTS", row(1).groups(0, 0, 9, 1), 0);
        Due.is("one POST", row(1, 7).groups(0, 0, 9, 1), 1);
        Due.is("two beside each other", row(1, 7, 8).groups(0, 0, 9, 1), 1);
        Due.is("two apart", row(1, 7, 9).groups(0, 0, 9, 1), 2);
        Due.is("twelve in a row", row(1, TWELVE).groups(0, 0, 9, 1), 1);
        Due.is("twelve alone", row(0, TWELVE).groups(0, 0, 9, 1), 12);
        Due.is("a row told from both ends", row(1, 0, 11, 1, 10, 2, 9, 3, 8, 4, 7, 5, 6).groups(0, 0, 9, 1), 1);
        Due.is("the same without its middle", row(1, 0, 11, 1, 10, 2, 9, 3, 8, 4, 7, 5).groups(0, 0, 9, 1), 2);
        Due.is("six pairs", row(1, 0, 3, 6, 9, 12, 15, 1, 4, 7, 10, 13, 14).groups(0, 0, 9, 1), 5);
    }

    private static void cutsMakeMoreGroups() {
        Due.sentence("CUTS: POSTS such that, were that one not there, the others would be in more GROUPS than all of them "
                + "are now.");
        Due.is("no POSTS", row(1).cuts(0, 0, 9, 1), 0);
        Due.is("one alone: none are left", row(1, 7).cuts(0, 0, 9, 1), 0);
        Due.is("two", row(1, 7, 8).cuts(0, 0, 9, 1), 0);
        Due.is("three: the middle", row(1, 7, 8, 9).cuts(0, 0, 9, 1), 0b010);
        Due.is("three that all see each other", row(2, 7, 8, 9).cuts(0, 0, 9, 1), 0);
        Due.is("two of three and one alone", row(1, 7, 8, 15).cuts(0, 0, 9, 1), 0);
        Due.is("twelve in a row: all but the ends", row(1, TWELVE).cuts(0, 0, 9, 1), 0b011111111110);
        Due.is("twelve with LINKS of 2", row(2, TWELVE).cuts(0, 0, 9, 1), 0);
        Due.is("twelve alone", row(0, TWELVE).cuts(0, 0, 9, 1), 0);
        Due.is("two rows", row(1, 0, 1, 2, 10, 11, 12).cuts(0, 0, 9, 1), 0b010010);
        FrontierDesk d = row(1, 5, 4, 6);
        d.post(5, 1, 1, 1, true, 0);
        Due.is("one that three hang on", d.cuts(0, 0, 9, 1), 0b0001);
    }

    private static void fewestToJoin() {
        Due.sentence("To JOIN: the fewest SUPPOSED POSTS");
        // Two FOUND at the ends, and as many SUPPOSED between as there can be.
        FrontierDesk d = row(1, 0, 11);
        for (int x = 1; x < 11; x++) {
            Due.is("still apart", d.join(0, 0, 9, 1), NONE);
            d.post(x, 0, 1, 1, false, 0);
        }
        Due.is("all ten", d.join(0, 0, 9, 1), 10);
        Due.is("one RIVAL", d.joined(0, 0), 1);
        Due.is("of all SUPPOSED ones", d.joined(2, 0), 0b111111111100);
        d.haze(0, 0, 10, 10);
        Due.is("any one of them", d.join(0, 0, 9, 1), 1);
        Due.is("ten RIVALS", d.joined(0, 0), 10);
        d.haze(0, 0, 11, 11);
        Due.is("none", d.join(0, 0, 9, 1), 0);
        Due.is("one RIVAL", d.joined(0, 0), 1);
        Due.is("which is none of them", d.joined(2, 0), 0);
        FrontierDesk less = row(5, 0, 10);
        for (int x : new int[] {4, 7, 5}) {
            less.post(x, 0, 1, 1, false, 0);
        }
        // 2 and 3 do it, too, and are the lesser number, but they are more.
        Due.is("one is less than two", less.join(0, 0, 9, 1), 1);
        Due.is("one RIVAL", less.joined(0, 0), 1);
        Due.is("which is 4", less.joined(2, 0), 0b10000);
        Due.is("no second one", less.joined(2, 1), NONE);
        FrontierDesk e = row(1, 0, 2, 4, 6, 8, 10);
        for (int x = 1; x < 10; x += 2) {
            e.post(x, 0, 1, 1, false, 0);
        }
        Due.is("six GROUPS, five between", e.join(0, 0, 9, 1), 5);
        Due.is("all of them", e.joined(2, 0), 0b11111000000);
    }

    private static void supposedThatStoodSo() {
        Due.sentence("(of those that, by NOTES, STOOD so)");
        FrontierDesk d = row(1, 0, 2);
        d.post(1, 0, 1, 1, false, 0);
        d.note(0, 0, 9);
        d.note(0, 1, 9);
        d.note(1, 2, 9);
        Due.is("MAYBE in its last YEAR", d.join(0, 0, 9, 1), 1);
        Due.is("not SURELY in the YEAR before", d.join(0, 0, 8, 2), 0);
        Due.is("SURELY in its last YEAR", d.join(0, 0, 9, 2), 1);
        Due.is("one YEAR behind", d.join(0, 0, 10, 1), NONE);
        d.dug(2, false);
        Due.is("an EMPTY one joins nobody", d.join(0, 0, 9, 1), NONE);
    }

    /** Three layers of 3, 4 and 3 SUPPOSED ones between two FOUND: any one of each joins them. */
    private static FrontierDesk layers() {
        FrontierDesk d = new FrontierDesk();
        d.land(16, 4);
        d.haze(0, 0, 5, 5);
        d.post(0, 1, 1, 1, true, 0);
        d.post(12, 1, 1, 1, true, 0);
        for (int y = 0; y < 4; y++) {
            d.post(6, y, 1, 1, false, 0);
        }
        for (int y = 0; y < 3; y++) {
            d.post(3, y, 1, 1, false, 0);
            d.post(9, y, 1, 1, false, 0);
        }
        return d;
    }

    private static void allRivals() {
        Due.sentence("RIVALS: all sets of so many with which that is so.");
        FrontierDesk d = layers();
        Due.is("one of each layer", d.join(0, 0, 9, 1), 3);
        Due.is("3 times 4 times 3", d.joined(0, 0), 36);
        int k = 0;
        for (int set = 0; set < 1 << 12; set++) {
            boolean one = Integer.bitCount(set & 0b111100) == 1 && Integer.bitCount(set & 0b010101000000) == 1
                    && Integer.bitCount(set & 0b101010000000) == 1 && (set & 3) == 0;
            if (one) {
                Due.is("RIVAL " + k, d.joined(2, k), set);
                k++;
            }
        }
        Due.is("no more", d.joined(2, k), NONE);
        Due.is("36 of them", k, 36);
    }

    private static void sharesOfRivals() {
        Due.sentence("SHARE of a SUPPOSED POST: in how many of these.");
        FrontierDesk d = layers();
        d.join(0, 0, 9, 1);
        for (int p = 0; p < 12; p++) {
            Due.is("SHARE of " + p, d.joined(1, p), p < 2 ? 0 : p < 6 ? 9 : 12);
        }
        // The first and the last POST that there can be are the RIVALS.
        FrontierDesk e = row(3);
        e.post(6, 0, 1, 1, false, 0);
        for (int x : new int[] {0, 1, 2, 3, 4, 9, 10, 11, 12, 13}) {
            e.post(x, 0, 1, 1, true, 0);
        }
        e.post(7, 0, 1, 1, false, 0);
        Due.is("one", e.join(0, 0, 9, 1), 1);
        Due.is("the first RIVAL", e.joined(2, 0), 1);
        Due.is("the second RIVAL", e.joined(2, 1), 1 << 11);
        for (int p = 0; p < 12; p++) {
            Due.is("SHARE of " + p, e.joined(1, p), p == 0 || p == 11 ? 1 : 0);
        }
        Due.is("the first is to DIG", e.dig(), 0);
    }

    private static void whereToDig() {
        Due.sentence("of SUPPOSED POSTS that are in some RIVALS and not in all, the one for which the greater of RIVALS "
                + "with it and without it is least; of several the least number.");
        FrontierDesk d = layers();
        d.join(0, 0, 9, 1);
        Due.is("12 of 36 rather than 9 of 36; the first of those", d.dig(), 6);
        FrontierDesk e = row(5, 0, 10);
        e.post(15, 0, 1, 1, false, 0);
        e.post(5, 0, 1, 1, false, 0);
        Due.is("one", e.join(0, 0, 9, 1), 1);
        Due.is("one is in all, one in none", e.dig(), NONE);
        e.haze(0, 0, 7, 7);
        e.post(7, 0, 1, 1, false, 0);
        e.join(0, 0, 9, 1);
        Due.is("one of two: 1 and 1, the lesser number", e.dig(), 3);
        e.post(3, 0, 1, 1, false, 0);
        e.join(0, 0, 9, 1);
        Due.is("one of three: 1 and 2", e.dig(), 3);
        FrontierDesk f = row(4, 0, 9);
        for (int x : new int[] {2, 6, 3, 4, 5}) {
            f.post(x, 0, 1, 1, false, 0);
        }
        Due.is("one of 2, 3, 4 and one of 5, 6", f.join(0, 0, 9, 1), 2);
        Due.is("six RIVALS", f.joined(0, 0), 6);
        Due.is("3 and 3 rather than 2 and 4, though its number is greater", f.dig(), 3);
        FrontierDesk g = row(4, 0, 9);
        for (int x : new int[] {5, 6, 7, 8, 4, 1}) {
            g.post(x, 0, 1, 1, false, 0);
        }
        Due.is("4 with 5, 6, 7 or 8, or 1 with 5", g.join(0, 0, 9, 1), 2);
        Due.is("five RIVALS", g.joined(0, 0), 5);
        // 4 is in four, 5 in two, the others in one each: 5 has 2 and 3.
        Due.is("too many is as bad as too few", g.dig(), 2);
    }

    // ---- Promises

    private static final int[][] NO_LINES = {{-1, 0, 9, 1}, {12, 0, 9, 1}, {0, -1, 9, 1}, {0, 2, 9, 1}, {0, 0, -1, 1},
        {0, 0, 501, 1}, {0, 0, 9, 0}, {0, 0, 9, 3}, {LEAST, 0, 9, 1}, {MOST, 0, 9, 1}, {0, LEAST, 9, 1}, {0, MOST, 9, 1},
        {0, 0, LEAST, 1}, {0, 0, MOST, 1}, {0, 0, 9, LEAST}, {0, 0, 9, MOST}};

    private static void promise16And17Refused() {
        Due.sentence("GROUPS; NONE: no such MONTH, KIND, YEAR, LEVEL.");
        for (int[] w : NO_LINES) {
            Story.refuses("groups" + Arrays.toString(w), d -> d.groups(w[0], w[1], w[2], w[3]));
        }
        FrontierDesk d = row(1, 0, 3);
        Due.is("the last MONTH, KIND, YEAR", d.groups(11, 1, 500, 1), 1);
        Due.is("the first", d.groups(0, 0, 0, 1), 2);
        Due.is("LEVEL 2", d.groups(0, 0, 0, 2), 0);
        Due.sentence("CUTS (bits); NONE likewise.");
        for (int[] w : NO_LINES) {
            Story.refuses("cuts" + Arrays.toString(w), e -> e.cuts(w[0], w[1], w[2], w[3]));
        }
    }

    private static void promise17Bits() {
        Due.sentence("CUTS (bits)");
        FrontierDesk d = row(1, 1, 0, 3, 4, 5, 6, 7, 8, 9, 10, 11, 2);
        Due.is("the last POST's bit, and the first's", d.cuts(0, 0, 0, 1) & 0b100000000001, 0b100000000001);
        Due.is("the last MONTH, KIND, YEAR", d.cuts(11, 1, 500, 1), 0);
    }

    private static void promise18Nought() {
        Due.sentence("To JOIN: how many SUPPOSED POSTS (0 with at most one GROUP)");
        FrontierDesk d = row(1);
        Due.is("no POSTS", d.join(0, 0, 9, 1), 0);
        Due.is("that is JOINED, too", d.joined(0, 0), 1);
        Due.is("one RIVAL: nobody", d.joined(2, 0), 0);
        d.post(5, 0, 1, 1, false, 0);
        Due.is("SUPPOSED ones alone", d.join(0, 0, 9, 1), 0);
        Due.is("one RIVAL", d.joined(0, 0), 1);
        Due.is("SHARE", d.joined(1, 0), 0);
        Due.is("one GROUP", row(1, 3).join(0, 0, 9, 1), 0);
        Due.is("one GROUP of twelve", row(1, TWELVE).join(0, 0, 9, 1), 0);
        Due.is("two GROUPS", row(1, 3, 5).join(0, 0, 9, 1), NONE);
    }

    private static void promise18Refused() {
        Due.sentence("NONE: no such ones (what is JOINED stays)");
        for (int[] w : NO_LINES) {
            Story.refuses("join" + Arrays.toString(w), d -> d.join(w[0], w[1], w[2], w[3]));
        }
        FrontierDesk d = Story.told();
        Due.is("the last MONTH, KIND, YEAR", d.join(11, 1, 500, 1), 0);
        Due.is("a refused one behind it", d.join(0, 0, 501, 1), NONE);
        Due.is("what is JOINED stays", d.joined(2, 0), 0);
    }

    private static void promise18NoSet() {
        Due.sentence("or no set does it (nothing is JOINED then)");
        FrontierDesk d = layers();
        Due.is("join", d.join(0, 0, 9, 1), 3);
        d.haze(0, 0, 2, 2);
        Due.is("no set", d.join(0, 0, 9, 1), NONE);
        Due.is("no RIVALS", d.joined(0, 0), NONE);
        Due.is("no SHARE", d.joined(1, 2), NONE);
        Due.is("no RIVAL", d.joined(2, 0), NONE);
        Due.is("nothing to DIG", d.dig(), NONE);
        d.haze(0, 0, 5, 5);
        Due.is("again", d.join(0, 0, 9, 1), 3);
        Due.is("RIVALS", d.joined(0, 0), 36);
    }

    private static void promise19AsItWasThen() {
        Due.sentence("Of the latest join(), as it was then");
        FrontierDesk d = layers();
        d.join(0, 0, 9, 1);
        d.haze(0, 0, 15, 15);
        d.ground(0, 0, 15, 3, 9, 3);
        d.note(1, 6, 1);
        d.bend(5);
        d.groups(0, 0, 9, 1);
        d.cuts(0, 0, 9, 1);
        Due.is("RIVALS", d.joined(0, 0), 36);
        Due.is("SHARE", d.joined(1, 6), 12);
        Due.is("RIVAL", d.joined(2, 35), 0b110000100000);
        Due.is("dig", d.dig(), 6);
        Due.is("the latest", d.join(0, 0, 9, 1), 0);
        Due.is("RIVALS", d.joined(0, 0), 1);
        Due.is("SHARE", d.joined(1, 6), 0);
    }

    private static void promise19AnyPost() {
        Due.sentence("1: SHARE of POST k (of any that there is; 0 if it is in none)");
        FrontierDesk d = row(5, 0, 10);
        d.post(15, 3, 1, 1, false, 0);
        d.post(5, 0, 1, 1, false, 0);
        d.join(0, 0, 9, 1);
        Due.is("a FOUND one", d.joined(1, 0), 0);
        Due.is("a SUPPOSED one in none", d.joined(1, 2), 0);
        Due.is("one in all", d.joined(1, 3), 1);
        Due.is("none yet", d.joined(1, 4), NONE);
        d.post(6, 0, 1, 1, false, 0);
        Due.is("one that came later", d.joined(1, 4), 0);
        Due.is("the next", d.joined(1, 5), NONE);
        Due.is("-1", d.joined(1, -1), NONE);
        Due.is("12", d.joined(1, 12), NONE);
    }

    private static void promise19Rising() {
        Due.sentence("2: RIVAL k (bits; by these as numbers, rising)");
        FrontierDesk d = layers();
        d.join(0, 0, 9, 1);
        for (int k = 1; k < 36; k++) {
            Due.yes("RIVAL " + k + " is greater", d.joined(2, k) > d.joined(2, k - 1));
        }
        Due.is("the first", d.joined(2, 0), 0b000011000100);
        Due.is("the last", d.joined(2, 35), 0b110000100000);
        Due.is("one more", d.joined(2, 36), NONE);
        Due.is("one less", d.joined(2, -1), NONE);
    }

    private static void promise19Refused() {
        Due.sentence("NONE: nothing is JOINED, none such.");
        int[][] wrong = {{-1, 0}, {3, 0}, {4, 0}, {1, -1}, {1, Story.POSTS}, {1, 12}, {2, -1}, {2, 3}, {2, 252}, {LEAST, 0},
            {MOST, 0}, {1, LEAST}, {1, MOST}, {2, LEAST}, {2, MOST}};
        for (int[] w : wrong) {
            Story.refuses("joined" + Arrays.toString(w), d -> d.joined(w[0], w[1]));
        }
        FrontierDesk d = Story.told();
        Due.is("RIVALS for any k", d.joined(0, LEAST), 3);
        Due.is("RIVALS for any k", d.joined(0, MOST), 3);
        Due.is("the last RIVAL", d.joined(2, 2), 0b1000000);
        FrontierDesk e = row(1, 0, 1);
        for (int what = 0; what < 3; what++) {
            Due.is("nothing is JOINED yet", e.joined(what, 0), NONE);
        }
    }

    private static void promise20Refused() {
        Due.sentence("To DIG next, by the RIVALS of the latest join(); NONE: nothing is JOINED, or no such POST.");
        FrontierDesk d = layers();
        Due.is("nothing is JOINED", d.dig(), NONE);
        d.join(0, 0, 9, 1);
        Due.is("the first", d.dig(), 6);
        Due.is("again", d.dig(), 6);
        d.join(1, 0, 9, 1);
        Due.is("nobody in a RIVAL", d.dig(), NONE);
        FrontierDesk e = row(1, 0, 2);
        e.post(1, 0, 1, 1, false, 0);
        Due.is("one", e.join(0, 0, 9, 1), 1);
        Due.is("in all RIVALS", e.dig(), NONE);
        FrontierDesk f = row(2, 0, 1, 2, 3, 4, 5, 6, 9);
        for (int x = 7; x <= 8; x++) {
            f.post(x, 1, 1, 1, false, 0);
            f.post(x, 0, 1, 1, false, 0);
        }
        Due.is("one", f.join(0, 0, 9, 1), 1);
        Due.is("of 9 and 11", f.joined(2, 1), 1 << 11);
        Due.is("the lesser", f.dig(), 9);
        f.join(0, 0, 9, 3);
        Due.is("a refused join() is not the latest", f.dig(), 9);
        f.haze(0, 0, 1, 1);
        Due.is("both", f.join(0, 0, 9, 1), 2);
        f.haze(0, 0, 0, 0);
        f.join(0, 0, 9, 1);
        Due.is("nothing is JOINED any more", f.dig(), NONE);
    }

    private static void promise21Dug() {
        Due.sentence("A SUPPOSED POST was dug: it is FOUND, or EMPTY (nothing is JOINED then): true");
        for (boolean found : new boolean[] {true, false}) {
            for (int post : new int[] {2, 11}) {
                FrontierDesk d = layers();
                d.join(0, 0, 9, 1);
                Due.yes("dug", d.dug(post, found));
                Due.is("FOUND or EMPTY", d.look(post, 2), found ? 0 : 2);
                Due.is("nothing is JOINED", d.joined(0, 0), NONE);
                Due.is("nothing to DIG", d.dig(), NONE);
                Due.is("as many POSTS", d.count(2), 12);
                Due.is("join", d.join(0, 0, 9, 1), found ? 2 : 3);
                Due.is("no SHARE any more", d.joined(1, post), 0);
            }
        }
    }

    private static void promise21Refused() {
        Due.sentence("true; false: no such one.");
        for (int post : new int[] {-1, 0, 5, 7, Story.POSTS, 12, LEAST, MOST}) {
            Story.refuses("dug(" + post + ", true)", d -> Story.truth(d.dug(post, true)), 0);
            Story.refuses("dug(" + post + ", false)", d -> Story.truth(d.dug(post, false)), 0);
        }
        FrontierDesk d = Story.told();
        Due.yes("the last POST", d.dug(Story.POSTS - 1, true));
        Due.no("not again", d.dug(Story.POSTS - 1, false));
        Due.is("it stays FOUND", d.look(Story.POSTS - 1, 2), 0);
    }
}
