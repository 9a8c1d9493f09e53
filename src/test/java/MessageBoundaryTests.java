import java.util.Arrays;

/** The boundary cases of a MESSAGE: part 5 of "Terms", promises 25 to 27. */
public final class MessageBoundaryTests {
    private static final int NONE = FrontierDesk.NONE;
    private static final int LEAST = Integer.MIN_VALUE;
    private static final int MOST = Integer.MAX_VALUE;

    /** A WORD of one S takes one minute to send. */
    private static final String QUICK = "word a 1;word b 2;word c 3;look 0;minutes 1;";

    private MessageBoundaryTests() {
    }

    public static void main(String[] args) {
        inTheLine();
        ownWordAtNought();
        firstTime();
        firstOrderNotDone();
        forThisPostOrAny();
        forThisWord();
        twiceFromTwo();
        actsFromTheMinuteOn();
        waits();
        sendsTakeMinutes();
        toOneIfJoined();
        toAllButWhomItHeard();
        passes();
        stops();
        stopsAtThatMinute();
        readOverLinks();
        lookedAtByMinutes();
        spentBeyond200();
        promise25Counts();
        promise25Refused();
        promise25SpentStays();
        promise26Heard();
        promise26Refused();
        promise27Sent();
        promise27Refused();
        Due.end();
    }

    /** FOUND POSTS at y 0 of a LAND of 16 by 4; smoke of MONTH 0 is seen SURELY so far. */
    private static FrontierDesk row(int reach, String rules, int... xs) {
        FrontierDesk d = new FrontierDesk();
        d.land(16, 4);
        d.haze(0, 0, reach, reach);
        for (int x : xs) {
            d.post(x, 0, 1, 1, true, 0);
        }
        Due.yes("RULES without a FAULT", Due.rules(d, rules) >= 0);
        return d;
    }

    /** What the POST HEARD of the WORD: minute, from whom, what was sent, from how many. */
    private static void heard(FrontierDesk d, int post, int word, int... due) {
        for (int what = 0; what < 4; what++) {
            Due.is("heard(" + post + ", " + word + ", " + what + ")", d.heard(post, word, what), due[what]);
        }
    }

    private static void unheard(FrontierDesk d, int post, int word) {
        heard(d, post, word, NONE, NONE, NONE, NONE);
    }

    private static void sent(FrontierDesk d, int... due) {
        for (int what = 0; what < 5; what++) {
            Due.is("sent(" + what + ")", d.sent(what), due[what]);
        }
    }

    // ---- Terms

    private static void inTheLine() {
        Due.sentence("in the LINE OF POSTS of LEVEL 1 (the POST must be in it)");
        FrontierDesk d = row(3, QUICK + "order any a do pass;", 0, 3);
        d.post(6, 0, 1, 1, false, 0);
        d.post(9, 0, 1, 1, false, 0);
        d.dug(3, false);
        Due.is("a SUPPOSED one", d.send(2, 0, 0, 0, 9), NONE);
        Due.is("an EMPTY one", d.send(3, 0, 0, 0, 9), NONE);
        d.note(1, 1, 100);
        Due.is("in its last YEAR", d.send(1, 0, 0, 0, 100), 2);
        Due.is("one YEAR behind", d.send(1, 0, 0, 0, 101), NONE);
        Due.is("the other one is alone then", d.send(0, 0, 0, 0, 101), 1);
        Due.is("MAYBE is enough: both in YEAR 0", d.send(0, 0, 0, 0, 0), 2);
        d.dug(2, true);
        Due.is("FOUND now, and joined", d.send(2, 0, 0, 0, 100), 3);
        d.haze(0, 0, 2, 3);
        Due.is("LINKS of LEVEL 1 are enough", d.send(2, 0, 0, 0, 100), 3);
        d.haze(0, 0, 2, 2);
        Due.is("none are", d.send(2, 0, 0, 0, 100), 1);
    }

    private static void ownWordAtNought() {
        Due.sentence("(the first one hears its own at minute 0 from nobody)");
        FrontierDesk d = row(1, QUICK, 0, 1);
        Due.is("send", d.send(1, 2, 0, 0, 9), 1);
        heard(d, 1, 2, 0, NONE, 2, 0);
        unheard(d, 1, 0);
        unheard(d, 0, 2);
        sent(d, 0, 0, 0, 0, 0);
    }

    private static void firstTime() {
        Due.sentence("it has HEARD it, the first time at that minute, from that POST");
        FrontierDesk d = row(15, QUICK + "order 0 a do send a to 1,wait 5,send a to 2;order any a do pass;", 0, 1, 2);
        Due.is("send", d.send(0, 0, 0, 0, 9), 3);
        // 1 hears it at 1 from 0, 2 at 2 from 1; 0 at 3 from 2, which it passes at 8 to 1; 2 at 7 from 0.
        heard(d, 0, 0, 0, NONE, 0, 1);
        heard(d, 1, 0, 1, 0, 0, 1);
        heard(d, 2, 0, 2, 1, 0, 2);
        sent(d, 5, 8, 0, 0, 4);
    }

    private static void firstOrderNotDone() {
        Due.sentence("of the orders, in the order in which they were told, the first one for this POST or any, for this "
                + "WORD, that wasn't done there yet");
        // Each of two POSTS does all 16 orders once, at each hearing the next one.
        String rules = "word a 1;look 0;minutes 1;" + "order any a do send a to 0,send a to 1;".repeat(16);
        FrontierDesk d = row(1, rules, 0, 1);
        Due.is("send", d.send(0, 0, 0, 0, 9), 2);
        sent(d, 32, 48, 0, 0, 32);
        FrontierDesk e = row(1, QUICK + "order any a do send a to 1,send a to 1;order 1 a do send b to 0;"
                + "order 1 a do send c to 0;", 0, 1);
        Due.is("send", e.send(0, 0, 0, 0, 9), 2);
        // 1 hears a at 1 and at 2: first the order for any, which sends nothing it could, then that of b.
        heard(e, 0, 1, 4, 1, 1, 1);
        unheard(e, 0, 2);
        Due.is("orders done", e.sent(4), 3);
    }

    private static void forThisPostOrAny() {
        Due.sentence("the first one for this POST or any");
        int[] twelve = {0, 1, 2, 3, 4, 5, 6, 7, 8, 9, 10, 11};
        for (int p = 0; p < 12; p++) {
            FrontierDesk d = row(15, QUICK + "order " + p + " a do send b;", twelve);
            for (int from = 0; from < 12; from++) {
                Due.is("from " + from + " with an order for " + p, d.send(from, 0, 0, 0, 9), from == p ? 12 : 1);
            }
        }
        FrontierDesk d = row(15, QUICK + "order any a do send b;", twelve);
        for (int from = 0; from < 12; from++) {
            Due.is("from " + from + " with an order for any", d.send(from, 0, 0, 0, 9), 12);
        }
    }

    private static void forThisWord() {
        Due.sentence("for this WORD");
        StringBuilder rules = new StringBuilder("look 0;minutes 1;");
        for (int i = 0; i < 10; i++) {
            rules.append("word ").append((char) ('a' + i)).append(" 1 ").append(1 + i / 9).append(' ').append(1 + i % 9).append(';');
        }
        FrontierDesk d = row(1, rules + "order any j do send a;", 0, 1);
        for (int word = 0; word < 10; word++) {
            Due.is("WORD " + word, d.send(0, word, 0, 0, 9), word == 9 ? 2 : 1);
        }
        Due.is("no eleventh", d.send(0, 10, 0, 0, 9), NONE);
        Due.is("the tenth stays", d.heard(1, 0, 0), 3);
    }

    private static void twiceFromTwo() {
        Due.sentence("if twice, for a WORD that was HEARD there from two POSTS by now");
        FrontierDesk d = row(15, QUICK + "order 0 a do send a to 1,send a to 1,send a to 1;order 1 a twice do send b;", 0, 1, 2);
        Due.is("three times from one POST", d.send(0, 0, 0, 0, 9), 2);
        Due.is("orders", d.sent(4), 1);
        FrontierDesk own = row(1, QUICK + "order 0 a twice do send b;order any a do pass,send a to 0;", 0, 1);
        Due.is("its own, and from one POST", own.send(0, 0, 0, 0, 9), 2);
        unheard(own, 1, 1);
        heard(own, 0, 0, 0, NONE, 0, 1);
        FrontierDesk two = row(15, QUICK + "order 0 a do send a to 1,send a to 2;order 2 a do send a to 1;"
                + "order 1 a twice do send b to 0;order 1 a do send c to 0;", 0, 1, 2);
        Due.is("from two", two.send(0, 0, 0, 0, 9), 3);
        // 1 hears a at 1 from 0: not yet twice, so c goes at 2; at 3 from 2: twice, so b goes at 4.
        heard(two, 0, 2, 2, 1, 2, 1);
        heard(two, 0, 1, 4, 1, 1, 1);
        heard(two, 1, 0, 1, 0, 0, 2);
        Due.is("orders", two.sent(4), 4);
        FrontierDesk other = row(15, QUICK + "order 0 a do send a to 1,send a to 2;order 2 a do send b to 1;"
                + "order 1 b twice do send c;order 1 a twice do send c;", 0, 1, 2);
        other.send(0, 0, 0, 0, 9);
        Due.is("two WORDS from two POSTS are not one from two", other.sent(4), 2);
    }

    private static void actsFromTheMinuteOn() {
        Due.sentence("its ACTS in order, from the minute on, or from that at which the POST has done its last one, if that "
                + "is later");
        String rules = QUICK + "order 0 a do send a to 1,send a to 1,wait 2,send a to 1;order 1 a do wait 3,send b;"
                + "order 1 a do send c to 0;order 1 a do send b to 0;";
        FrontierDesk d = row(15, rules, 0, 1, 2);
        d.send(0, 0, 0, 0, 9);
        // 1 hears a at 1, 2 and 5: b from 1 to 5; c behind it from 5 to 6; b at 6 just when c is done.
        heard(d, 2, 1, 5, 1, 1, 1);
        heard(d, 0, 2, 6, 1, 2, 1);
        heard(d, 0, 1, 7, 1, 1, 1);
        sent(d, 3 + 1 + 1 + 1, 7, 0, 0, 4);
        FrontierDesk later = row(15, QUICK + "order 0 a do send a to 1,wait 9,send a to 1;order 1 a do send b to 0;"
                + "order 1 a do send c to 0;", 0, 1);
        later.send(0, 0, 0, 0, 9);
        heard(later, 0, 1, 2, 1, 1, 1);
        heard(later, 0, 2, 12, 1, 2, 1);
    }

    private static void waits() {
        Due.sentence("wait: so many minutes go by.");
        for (int n : new int[] {1, 2, 98, 99}) {
            FrontierDesk d = row(1, QUICK + "order any a do wait " + n + ",pass;", 0, 1);
            d.send(0, 0, 0, 0, 9);
            Due.is("wait " + n, d.heard(1, 0, 0), n + 1);
        }
        FrontierDesk d = row(1, QUICK + "order any a do wait 99,wait 99,wait 99,pass;", 0, 1);
        d.send(0, 0, 0, 0, 9);
        Due.is("three times 99", d.heard(1, 0, 0), 298);
        FrontierDesk e = row(1, QUICK + "order any a do wait 99,wait 99,wait 99,wait 99;", 0, 1);
        e.send(0, 0, 0, 0, 9);
        sent(e, 0, 0, 0, 0, 1);
    }

    private static void sendsTakeMinutes() {
        Due.sentence("send: look and minutes times as many as the WORD has S go by");
        int[][] due = {{0, 1, 1}, {0, 1, 5}, {30, 9, 5}, {30, 9, 1}, {0, 9, 5}, {30, 1, 1}, {1, 2, 3}};
        for (int[] s : due) {
            String signs = " 1 2 3 4 5".substring(0, 2 * s[2]);
            FrontierDesk d = row(1, "word a 9;word b" + signs + ";look " + s[0] + ";minutes " + s[1]
                    + ";order 0 a do send b;order 1 b do pass,send a to 0;", 0, 1);
            d.send(0, 0, 0, 0, 9);
            int took = s[0] + s[1] * s[2];
            Due.is("look, minutes, S " + Arrays.toString(s), d.heard(1, 1, 0), took);
            Due.is("pass to nobody takes as long", d.heard(0, 0, 0), 0);
            Due.is("and then a of one S", d.sent(1), 2 * took + s[0] + s[1]);
        }
        FrontierDesk d = row(1, "word a 1 2;order any a do pass;", 0, 1);
        d.send(0, 0, 0, 0, 9);
        Due.is("1 and twice 2 without look and minutes", d.heard(1, 0, 0), 5);
    }

    private static void toOneIfJoined() {
        Due.sentence("to P that one, if joined");
        FrontierDesk d = row(1, QUICK + "order 0 a do send b to 11,send b to 0,send b to 2,send b to 1;", 0, 1, 2);
        Due.is("send", d.send(0, 0, 0, 0, 9), 2);
        // No such POST, itself, and one that it doesn't see: minutes go by all the same.
        heard(d, 1, 1, 4, 0, 1, 1);
        unheard(d, 0, 1);
        unheard(d, 2, 1);
        sent(d, 1, 4, 0, 0, 1);
        FrontierDesk back = row(1, QUICK + "order 0 a do pass;order 1 a do send b to 0;", 0, 1);
        back.send(0, 0, 0, 0, 9);
        heard(back, 0, 1, 2, 1, 1, 1);
        FrontierDesk all = row(15, QUICK + "order 0 a do send b to 11;", 0, 1, 2, 3, 4, 5, 6, 7, 8, 9, 10, 11);
        Due.is("the last POST", all.send(0, 0, 0, 0, 9), 2);
        heard(all, 11, 1, 1, 0, 1, 1);
        FrontierDesk supposed = row(15, QUICK + "order 0 a do send b to 1;", 0);
        supposed.post(1, 0, 1, 1, false, 0);
        Due.is("a SUPPOSED one", supposed.send(0, 0, 0, 0, 9), 1);
    }

    private static void toAllButWhomItHeard() {
        Due.sentence("without to all joined ones but the one from whom it HEARD (by numbers)");
        FrontierDesk d = row(15, QUICK + "order 0 a do send b;order any b do send c;", 0, 1, 2, 3);
        d.send(0, 0, 0, 0, 9);
        // 0 has HEARD a from nobody: b to all three; each of them sends c to all but 0.
        sent(d, 3 + 6, 2, 0, 0, 4);
        unheard(d, 0, 2);
        heard(d, 1, 2, 2, 2, 2, 2);
        heard(d, 2, 2, 2, 1, 2, 2);
        heard(d, 3, 2, 2, 1, 2, 2);
        FrontierDesk alone = row(1, QUICK + "order 0 a do send b;", 0, 5);
        Due.is("to nobody", alone.send(0, 0, 0, 0, 9), 1);
        sent(alone, 0, 0, 0, 0, 1);
        // By numbers: 1 is looked at before 2, so its b is the first at 3.
        FrontierDesk e = row(15, QUICK + "order 0 a do pass;order 2 a do send b to 3;order 1 a do send b to 3;", 0, 1, 2, 3);
        e.send(0, 0, 0, 0, 9);
        heard(e, 3, 1, 2, 1, 1, 2);
        // It is the POST from whom it HEARD this time, not the first time.
        FrontierDesk f = row(15, QUICK + "order 0 a do send a to 1,send a to 2;order 2 a do send a to 1;"
                + "order 1 a do wait 1;order 1 a do send b;", 0, 1, 2);
        f.send(0, 0, 0, 0, 9);
        heard(f, 0, 1, 4, 1, 1, 1);
        unheard(f, 2, 1);
    }

    private static void passes() {
        Due.sentence("pass: as send of the WORD HEARD.");
        FrontierDesk d = row(1, QUICK + "like 2 1;order any a do pass;order any b do pass;", 0, 1, 2);
        d.haze(1, 0, 0, 1);
        Due.is("clearly", d.send(0, 1, 0, 0, 9), 3);
        heard(d, 2, 1, 2, 1, 1, 1);
        Due.is("dimly: b is HEARD as a, and so passed", d.send(0, 1, 1, 0, 9), 3);
        heard(d, 1, 0, 1, 0, 1, 1);
        heard(d, 2, 0, 2, 1, 0, 1);
        Due.is("misread once", d.sent(2), 1);
    }

    private static void stops() {
        Due.sentence("stop: from that minute on");
        // 0 sends a at 1, 2, 3 and 4 to 1, which stops at 3.
        FrontierDesk d = row(15, "word a 1;word b 2;word c 3;word e 4;look 0;minutes 1;"
                + "order 0 a do send a to 1,send b to 1,send c to 1,send e to 1;order 1 a do wait 2,stop,send b to 2;", 0, 1, 2);
        Due.is("send", d.send(0, 0, 0, 0, 9), 3);
        heard(d, 1, 0, 1, 0, 0, 1);
        heard(d, 1, 1, 2, 0, 1, 1);
        unheard(d, 1, 2);
        unheard(d, 1, 3);
        heard(d, 2, 1, 4, 1, 1, 1);
        sent(d, 5, 4, 0, 0, 2);
        FrontierDesk first = row(1, QUICK + "order 0 a do stop,pass;order 1 a do send b to 0;", 0, 1);
        Due.is("stop at minute 0", first.send(0, 0, 0, 0, 9), 2);
        unheard(first, 0, 1);
        heard(first, 0, 0, 0, NONE, 0, 0);
        sent(first, 2, 2, 0, 0, 2);
        Due.is("the next MESSAGE is HEARD again", first.send(1, 0, 0, 0, 9), 2);
        heard(first, 0, 1, 1, 1, 1, 1);
    }

    private static void stopsAtThatMinute() {
        Due.sentence("(what comes at it, too, if it is looked at behind)");
        // 1 and 2 both send b to 3 at 2; that of 1 is looked at first, and 3 stops at once.
        FrontierDesk d = row(15, QUICK + "order 0 a do pass;order 1 a do send b to 3;order 2 a do send b to 3;"
                + "order 3 a do send c to 0;order 3 b do stop;", 0, 1, 2, 3);
        d.send(0, 0, 0, 0, 9);
        heard(d, 3, 1, 2, 1, 1, 1);
        heard(d, 3, 0, 1, 0, 0, 1);
        // A stop one minute later: the second one at that minute is still HEARD.
        FrontierDesk e = row(15, QUICK + "order 0 a do pass;order 1 a do send b to 3,send c to 3;order 2 a do send b to 3;"
                + "order 3 b do wait 1,stop;", 0, 1, 2, 3);
        e.send(0, 0, 0, 0, 9);
        heard(e, 3, 1, 2, 1, 1, 2);
        unheard(e, 3, 2);
    }

    private static void readOverLinks() {
        Due.sentence("Who sees S over a LINK of LEVEL 2 HEARS that WORD; of LEVEL 1: the WORD that has just those S that are "
                + "the S seen, READ DIMLY (if there is none such, it HEARS nothing).");
        FrontierDesk d = row(15, "word a 2 3;word b 1 3;word c 2;word e 1 1;like 1 2;order 0 a do pass;order 0 c do pass;"
                + "order 0 b do pass;", 0, 4);
        d.haze(0, 0, 4, 5);
        Due.is("at WORST: LEVEL 2", d.send(0, 0, 0, 0, 9), 2);
        heard(d, 1, 0, 5, 0, 0, 1);
        sent(d, 1, 5, 0, 0, 1);
        d.haze(0, 0, 3, 4);
        Due.is("at BEST: LEVEL 1", d.send(0, 0, 0, 0, 9), 2);
        unheard(d, 1, 0);
        heard(d, 1, 1, 5, 0, 0, 1);
        sent(d, 1, 5, 1, 0, 1);
        Due.is("b is read as itself", d.send(0, 1, 0, 0, 9), 2);
        sent(d, 1, 5, 0, 0, 1);
        Due.is("c is read as 1: a row that none has", d.send(0, 2, 0, 0, 9), 1);
        sent(d, 1, 3, 0, 1, 1);
        unheard(d, 1, 2);
        unheard(d, 1, 3);
        d.haze(0, 0, 3, 3);
        Due.is("beyond BEST: not joined", d.send(0, 0, 0, 0, 9), 1);
        sent(d, 0, 0, 0, 0, 1);
    }

    private static void lookedAtByMinutes() {
        Due.sentence("What is seen is looked at by minutes, at one minute in the order in which it was sent.");
        FrontierDesk d = row(15, QUICK + "order 0 a do pass;order 1 a do wait 50,send b to 3;order 2 a do send b to 3;", 0, 1, 2, 3);
        d.send(0, 0, 0, 0, 9);
        heard(d, 3, 1, 2, 2, 1, 2);
        Due.is("the last one", d.sent(1), 52);
        // 2 hears a at 1, 1 at 2; b of both comes at 7, that of 2 was sent first.
        FrontierDesk e = row(15, QUICK + "order 0 a do send a to 2,send a to 1;order 2 a do wait 5,send b to 3;"
                + "order 1 a do wait 4,send b to 3;", 0, 1, 2, 3);
        e.send(0, 0, 0, 0, 9);
        heard(e, 3, 1, 7, 2, 1, 2);
        // One minute earlier, that of 1 is the first though it was sent later.
        FrontierDesk f = row(15, QUICK + "order 0 a do send a to 2,send a to 1;order 2 a do wait 5,send b to 3;"
                + "order 1 a do wait 3,send b to 3;", 0, 1, 2, 3);
        f.send(0, 0, 0, 0, 9);
        heard(f, 3, 1, 6, 1, 1, 2);
    }

    /**
     * Ten POSTS that all see each other: 0 is seen 18 times, each of the others 16 times; then 1, which
     * hears a again and again, sends b 32 times, 4 times, and so many times more.
     */
    private static FrontierDesk busy(int more) {
        StringBuilder rules = new StringBuilder(QUICK + "order any a do pass,pass;order 1 a do send b,send b,send b,send b;"
                + "order 1 a do send b to 0,send b to 0,send b to 0,send b to 0;");
        rules.append("order 1 a do wait 1");
        for (int i = 0; i < more; i++) {
            rules.append(",send b to 0");
        }
        return row(15, rules + ";", 0, 1, 2, 3, 4, 5, 6, 7, 8, 9);
    }

    private static void spentBeyond200() {
        Due.sentence("With more than 200 that are seen: SPENT.");
        for (int more = 0; more <= 3; more++) {
            FrontierDesk d = busy(more);
            Due.is("198 and " + more, d.send(0, 0, 0, 0, 9), more <= 2 ? 10 : -2);
            Due.is("seen", d.sent(0), Math.min(200, 198 + more));
            Due.is("orders done", d.sent(4), 13);
        }
        // The first one's own acts can't spend it: 4 times 11 are seen, and all is done.
        FrontierDesk d = row(15, QUICK + "order 0 a do pass,pass,pass,pass;", 0, 1, 2, 3, 4, 5, 6, 7, 8, 9, 10, 11);
        Due.is("44", d.send(0, 0, 0, 0, 9), 12);
        sent(d, 44, 4, 0, 0, 1);
    }

    // ---- Promises

    private static void promise25Counts() {
        Due.sentence("A MESSAGE of WORD (as told, from 0 on): how many POSTS have HEARD something (the first one, too)");
        int[] xs = {0, 1, 2, 3, 4, 5, 6, 7, 8, 9, 10, 11};
        for (int n = 1; n <= 12; n++) {
            FrontierDesk d = row(1, QUICK + "order any b do pass;order any a do pass,send b;", Arrays.copyOf(xs, n));
            Due.is(n + " POSTS, from the first", d.send(0, 0, 0, 0, 9), n);
            Due.is("from the last", d.send(n - 1, 0, 0, 0, 9), n);
            Due.is("the last one's own", d.heard(n - 1, 0, 0), 0);
            Due.is("the second WORD", d.send(0, 1, 0, 0, 9), n);
            Due.is("is HEARD at the last", d.heard(n - 1, 1, 0), n - 1);
            Due.is("a WORD without an order", d.send(0, 2, 0, 0, 9), 1);
        }
    }

    private static void promise25Refused() {
        Due.sentence("NONE: no such WORD, POST (it isn't in the LINE OF POSTS), MONTH, KIND, YEAR");
        int[][] wrong = {{-1, 0, 0, 0, 9}, {Story.POSTS, 0, 0, 0, 9}, {12, 0, 0, 0, 9}, {3, 0, 0, 0, 9}, {5, 0, 0, 0, 9},
            {1, 0, 0, 0, 201}, {0, -1, 0, 0, 9}, {0, Story.WORDS, 0, 0, 9}, {0, 10, 0, 0, 9}, {0, 0, -1, 0, 9},
            {0, 0, 12, 0, 9}, {0, 0, 0, -1, 9}, {0, 0, 0, 2, 9}, {0, 0, 0, 0, -1}, {0, 0, 0, 0, 501}, {LEAST, 0, 0, 0, 9},
            {MOST, 0, 0, 0, 9}, {0, LEAST, 0, 0, 9}, {0, MOST, 0, 0, 9}, {0, 0, LEAST, 0, 9}, {0, 0, MOST, 0, 9},
            {0, 0, 0, LEAST, 9}, {0, 0, 0, MOST, 9}, {0, 0, 0, 0, LEAST}, {0, 0, 0, 0, MOST}};
        for (int[] w : wrong) {
            Story.refuses("send" + Arrays.toString(w), d -> d.send(w[0], w[1], w[2], w[3], w[4]));
        }
        Due.is("the last MONTH, KIND, YEAR, WORD", Story.told().send(0, 2, 11, 1, 500), 3);
        Due.is("no RULES", row(1, "", 0).send(0, 0, 0, 0, 9), NONE);
        FrontierDesk d = row(1, QUICK, 0);
        d.note(0, 0, 9);
        d.note(1, 0, 8);
        Due.is("nobody is in the LINE in a QUARREL", d.send(0, 0, 0, 0, 9), NONE);
    }

    private static void promise25SpentStays() {
        Due.sentence("-2: SPENT (what was HEARD till then stays).");
        FrontierDesk d = busy(3);
        Due.is("SPENT", d.send(0, 0, 0, 0, 9), -2);
        // At minute 2 what 0 passed again is looked at, then that of 1, of 2, and the first of 3, to 1.
        int[] from = {0, 3, 2, 3, 3, 3, 3, 3, 3, 3};
        for (int p = 0; p < 10; p++) {
            heard(d, p, 0, p == 0 ? 0 : 1, p == 0 ? NONE : 0, 0, from[p]);
            unheard(d, p, 1);
        }
        sent(d, 200, 2, 0, 0, 13);
        Due.is("NONE behind it", d.send(0, 9, 0, 0, 9), NONE);
        Due.is("leaves it", d.sent(0), 200);
        Due.is("another one behind it", d.send(0, 1, 0, 0, 9), 1);
        sent(d, 0, 0, 0, 0, 0);
        unheard(d, 3, 0);
    }

    private static void promise26Heard() {
        Due.sentence("what 0: the minute at which it HEARD it first, 1: from whom (NONE: from nobody), 2: the WORD that was "
                + "sent then, 3: from how many POSTS it HEARD it.");
        FrontierDesk d = row(15, QUICK + "order any a do pass;", 0, 1, 2, 3, 4, 5, 6, 7, 8, 9, 10, 11);
        Due.is("send", d.send(11, 0, 0, 0, 9), 12);
        heard(d, 11, 0, 0, NONE, 0, 0);
        for (int p = 0; p < 11; p++) {
            heard(d, p, 0, 1, 11, 0, 11);
        }
        FrontierDesk e = row(1, QUICK + "like 2 1;order 0 a do pass;order 0 b do send a,send b;", 0, 1);
        e.haze(0, 0, 0, 1);
        e.send(0, 1, 0, 0, 9);
        Due.is("of the latest send() alone", d.send(0, 1, 0, 0, 9), 1);
        heard(d, 0, 1, 0, NONE, 1, 0);
        unheard(d, 5, 0);
        Due.is("again", d.send(0, 0, 0, 0, 9), 12);
        heard(d, 0, 0, 0, NONE, 0, 0);
        heard(d, 11, 0, 1, 0, 0, 11);
        heard(e, 1, 0, 1, 0, 0, 1);
        Due.is("the second was misread, but it was HEARD already", e.sent(2), 1);
        e.haze(0, 0, 0, 0);
        e.ground(0, 0, 15, 3, 9, 3);
        e.note(1, 1, 0);
        heard(e, 1, 0, 1, 0, 0, 1);
    }

    private static void promise26Refused() {
        Due.sentence("NONE: no such ones, or it hasn't.");
        int[][] wrong = {{-1, 0, 0}, {Story.POSTS, 0, 0}, {12, 0, 0}, {0, -1, 0}, {0, Story.WORDS, 0}, {0, 10, 0}, {0, 0, -1},
            {0, 0, 4}, {0, 1, 0}, {2, 0, 0}, {3, 0, 0}, {5, 0, 0}, {LEAST, 0, 0}, {MOST, 0, 0}, {0, LEAST, 0}, {0, MOST, 0},
            {0, 0, LEAST}, {0, 0, MOST}, {-1, 10, 0}, {-1, 11, 0}};
        for (int[] w : wrong) {
            Story.refuses("heard" + Arrays.toString(w), d -> d.heard(w[0], w[1], w[2]));
        }
        FrontierDesk d = row(1, QUICK, 0);
        for (int what = 0; what < 4; what++) {
            Due.is("no MESSAGE", d.heard(0, 0, what), NONE);
        }
        d.send(0, 0, 0, 0, 9);
        Due.is("a POST that came later", d.post(5, 0, 1, 1, true, 0), 1);
        unheard(d, 1, 0);
        heard(d, 0, 0, 0, NONE, 0, 0);
        // With ten WORDS the eleventh at one POST isn't the first at the next.
        StringBuilder ten = new StringBuilder("look 0;minutes 1;order any a do pass;");
        for (int i = 0; i < 10; i++) {
            ten.append("word ").append((char) ('a' + i)).append(" 1 ").append(1 + i / 9).append(' ').append(1 + i % 9).append(';');
        }
        FrontierDesk e = row(15, ten.toString(), 0, 1, 2, 3, 4, 5, 6, 7, 8, 9, 10, 11);
        Due.is("send", e.send(5, 0, 0, 0, 9), 12);
        for (int p = 0; p < 12; p++) {
            Due.is("the first WORD at " + p, e.heard(p, 0, 2), 0);
            unheard(e, p, 9);
            unheard(e, p, 10);
        }
    }

    private static void promise27Sent() {
        Due.sentence("what 0: how many things were seen, 1: the minute of the last one looked at (0 without), 2: how many were "
                + "READ as another WORD than was sent, 3: how many were READ as none, 4: orders done.");
        FrontierDesk d = row(15, "word a 1;word b 2;word c 3;word e 4;like 1 2;like 3 9;like 4 3;look 0;minutes 1;"
                + "order 0 a do send a,send b,send c,send e;", 0, 1, 2);
        d.haze(0, 0, 1, 2);
        d.send(0, 0, 0, 0, 9);
        // 1 reads all clearly; 2 reads a as a, b as a, c as c, e as c.
        sent(d, 8, 4, 2, 0, 1);
        heard(d, 2, 2, 3, 0, 2, 1);
        FrontierDesk e = row(15, "word a 2;word b 3 2;look 0;minutes 1;like 1 2;order any a do pass,send b;", 0, 1);
        e.haze(0, 0, 0, 1);
        e.send(0, 0, 0, 0, 9);
        sent(e, 2, 3, 0, 2, 1);
        e.send(1, 1, 0, 0, 9);
        sent(e, 0, 0, 0, 0, 0);
    }

    private static void promise27Refused() {
        Due.sentence("NONE without, and for another what.");
        for (int what : new int[] {-1, 5, 6, LEAST, MOST}) {
            Story.refuses("sent(" + what + ")", d -> d.sent(what));
        }
        FrontierDesk d = row(1, QUICK, 0);
        sent(d, NONE, NONE, NONE, NONE, NONE);
        Due.is("refused", d.send(1, 0, 0, 0, 9), NONE);
        sent(d, NONE, NONE, NONE, NONE, NONE);
        d.send(0, 0, 0, 0, 9);
        sent(d, 0, 0, 0, 0, 0);
        d.land(4, 4);
        sent(d, NONE, NONE, NONE, NONE, NONE);
    }
}
