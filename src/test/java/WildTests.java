import java.lang.management.ManagementFactory;
import java.util.Random;

/**
 * Calls with any arguments at all, in states that random calls lead to: nothing is thrown, two
 * objects answer alike, and a call makes no objects (the room for a whole run is small).
 */
public final class WildTests {
    private static final int RUNS = 300;
    private static final int CALLS = 512;
    private static final int[] EDGES = {Integer.MIN_VALUE, Integer.MIN_VALUE + 1, -1000, -2, -1, 0, 1, 2, 3, 4,
        5, 9, 10, 11, 12, 15, 16, 17, 39, 40, 41, 50, 51, 59, 60, 61, 99, 100, 200, 201, 252, 500, 501, 999, 1000,
        1001, 9999, 10000, Integer.MAX_VALUE - 1, Integer.MAX_VALUE};

    // Made once: the bytes that calls make are counted below.
    private static final int TEXT_LENGTH = 100;
    private static final int[] STOPPING = Due.numbers(
            "word a 1;word b 2;like 1 2;order any a do send b,pass,stop;order any b do send a,wait 9;            ");
    private static final int[] PASSING = Due.numbers(
            "word a 1;word b 2;like 3 2;order any a do send b,pass;order any b do send a,pass;order 3 a do pass; ");

    private WildTests() {
    }

    private static void feed(FrontierDesk d, int[] n) {
        for (int i = 0; i + 4 < n.length; i += 5) {
            d.feed(n[i], n[i + 1], n[i + 2], n[i + 3], n[i + 4]);
        }
    }

    public static void main(String[] args) {
        Due.part("wild");
        for (int seed = 0; seed < RUNS; seed++) {
            FrontierDesk one = new FrontierDesk();
            FrontierDesk other = new FrontierDesk();
            Random dice = new Random(seed);
            Random again = new Random(seed);
            for (int i = 0; i < CALLS; i++) {
                Due.is("run " + seed + " call " + i, wild(one, dice), wild(other, again));
            }
        }
        Due.yes("calls make nothing", bytesMade() < 200_000);
        Due.end();
    }

    /** The bytes made by some 50,000 calls of an object that is there already. */
    private static long bytesMade() {
        com.sun.management.ThreadMXBean threads =
                (com.sun.management.ThreadMXBean) ManagementFactory.getThreadMXBean();
        long id = Thread.currentThread().getId();
        FrontierDesk desk = new FrontierDesk();
        Random dice = new Random(1);
        for (int i = 0; i < 1000; i++) {
            wild(desk, dice);
        }
        threads.getThreadAllocatedBytes(id);
        long before = threads.getThreadAllocatedBytes(id);
        for (int i = 0; i < 50_000; i++) {
            wild(desk, dice);
        }
        return threads.getThreadAllocatedBytes(id) - before;
    }

    private static int any(Random dice) {
        int die = dice.nextInt(12);
        return die == 0 ? dice.nextInt() : die < 4 ? EDGES[dice.nextInt(EDGES.length)] : dice.nextInt(12);
    }

    private static int letters(Random dice) {
        String text = "word a 1;word b 2 3;like 1 2;order any a do pass,send b;look 0;minutes 1; ,\n";
        int four = 0;
        int at = dice.nextInt(text.length() - 4);
        for (int i = 0; i < 4; i++) {
            four = four << 8 | text.charAt(at + i);
        }
        return four;
    }

    private static int truth(boolean answer) {
        return answer ? 1 : 0;
    }

    private static int wild(FrontierDesk d, Random r) {
        boolean yes = r.nextBoolean();
        int a = any(r);
        int b = any(r);
        int c = any(r);
        int e = any(r);
        switch (r.nextInt(36)) {
            case 0:
                return r.nextInt(20) == 0 ? truth(d.land(a, b)) : 0;
            case 1:
                return truth(d.ground(a, b, c, e, any(r), any(r)));
            case 2:
                return truth(d.trees(a, b, c));
            case 3:
                return truth(d.bend(a));
            case 4:
                return truth(d.haze(a, b, c, e));
            case 5:
            case 6:
                return d.post(a, b, c, e, yes, any(r));
            case 7:
                return d.sight(a, b, c, e);
            case 8:
                return d.block(a, b, yes);
            case 9:
                return d.raise(a, b);
            case 10:
                return d.note(a, b, c);
            case 11:
                return d.strike(a);
            case 12:
                return d.years(a, b, c);
            case 13:
                return d.quarrel();
            case 14:
                return d.stood(a, b, c);
            case 15:
                return d.groups(a, b, c, e);
            case 16:
                return d.cuts(a, b, c, e);
            case 17:
                return d.join(a, b, c, e);
            case 18:
                return d.joined(a, b);
            case 19:
                return d.dig();
            case 20:
                return truth(d.dug(a, yes));
            default:
                return wildWords(d, r, a, b, c, e);
        }
    }

    private static int wildWords(FrontierDesk d, Random r, int a, int b, int c, int e) {
        switch (r.nextInt(14)) {
            case 0:
                return d.feed(a, b, c, e, any(r));
            case 1:
                return d.feed(letters(r), letters(r), letters(r), letters(r), letters(r));
            case 2:
                return d.rules(a);
            case 3:
                feed(d, STOPPING);
                return d.rules(b);
            case 4:
                d.rules(0);
                feed(d, r.nextBoolean() ? STOPPING : PASSING);
                return d.rules(TEXT_LENGTH);
            case 5:
                return d.fault(a);
            case 6:
                return d.send(a, b, c, e, any(r));
            case 7:
                return d.send(r.nextInt(4), r.nextInt(2), 0, 0, 100);
            case 8:
                return d.heard(a, b, c) + d.sent(e);
            case 9:
                return d.way(a, b);
            case 10:
                return truth(d.store(a, b));
            case 11:
                return d.supply(a);
            case 12:
                return d.supplied(a, b);
            default:
                return d.look(a, b) + d.count(c);
        }
    }
}
