import java.util.ArrayList;
import java.util.List;
import java.util.function.Consumer;
import java.util.function.ToIntFunction;

/**
 * A desk of which something is told in every part, and all that can be asked of it: a refused call
 * must leave every one of these answers as it is. No desk is asked more than 512 times, so the
 * questions are put to several desks with the same story.
 */
final class Story {
    static final int NONE = FrontierDesk.NONE;
    static final int POSTS = 9;
    static final int NOTES = 6;
    static final int WORDS = 3;

    private static final String RULES = "word a 1 2;word b 3;word c 1 1;like 1 2;minutes 3;look 2;"
            + "order any a do pass;order any c do pass;order 2 b twice do wait 5,send a to 1;";
    private static final String ON_TAPE = "word zz 9;          ";
    private static final int PARTS = 4;

    private static List<Integer> untouched = null;

    private Story() {
    }

    static FrontierDesk told() {
        FrontierDesk d = new FrontierDesk();
        d.land(16, 6);
        d.ground(6, 0, 9, 2, 2, 1);
        d.ground(2, 0, 2, 1, 1, 2);
        d.ground(13, 0, 13, 5, 1, 3);
        d.trees(1, 1, 4);
        d.trees(2, 1, 6);
        d.trees(3, 2, 3);
        d.bend(20);
        d.haze(0, 0, 5, 6);
        d.haze(3, 1, 2, 11);
        d.post(0, 0, 4, 9, true, 3);
        d.post(5, 0, 6, 6, true, 10);
        d.post(15, 0, 5, 8, true, 0);
        d.post(9, 0, 5, 7, false, 4);
        d.post(10, 0, 5, 7, false, 5);
        d.post(3, 5, 1, 1, false, 6);
        d.post(10, 2, 7, 9, false, 7);
        d.post(4, 3, 5, 5, true, 7);
        d.post(15, 5, 3, 4, false, 8);
        d.dug(5, false);
        d.note(0, 0, 100);
        d.note(1, 1, 200);
        d.note(3, 2, 1);
        d.note(5, 6, 50);
        d.note(1, 7, 40);
        d.strike(4);
        Due.rules(d, RULES);
        d.send(0, 0, 0, 0, 100);
        d.join(0, 0, 100, 1);
        d.store(0, 50);
        d.store(2, 9);
        d.supply(2);
        d.store(1, 33);
        Due.put(d, ON_TAPE);
        return d;
    }

    /** The call is refused with this answer, and nothing else is changed by it. */
    static void refuses(String call, ToIntFunction<FrontierDesk> refused, int due) {
        Due.is(call, refused.applyAsInt(told()), due);
        if (untouched == null) {
            untouched = answers(d -> { });
        }
        List<Integer> behind = answers(refused::applyAsInt);
        for (int i = 0; i < untouched.size(); i++) {
            Due.is("question " + i + " behind " + call, behind.get(i), untouched.get(i));
        }
    }

    static void refuses(String call, ToIntFunction<FrontierDesk> refused) {
        refuses(call, refused, NONE);
    }

    static int truth(boolean answer) {
        return answer ? 1 : 0;
    }

    static List<Integer> answers(Consumer<FrontierDesk> before) {
        List<Integer> all = new ArrayList<>();
        for (int part = 0; part < PARTS; part++) {
            FrontierDesk d = told();
            before.accept(d);
            switch (part) {
                case 0 -> askPosts(d, all);
                case 1 -> askPairs(d, all);
                case 2 -> askWhatWasDone(d, all);
                default -> doMore(d, all);
            }
        }
        return all;
    }

    private static void askPosts(FrontierDesk d, List<Integer> all) {
        for (int p = 0; p <= POSTS; p++) {
            for (int what = 0; what < 7; what++) {
                all.add(d.look(p, what));
            }
            for (int what = 0; what < 4; what++) {
                all.add(d.years(p, NOTES, what));
                all.add(d.years(p, NOTES - 1, what));
            }
            all.add(d.stood(p, 100, NOTES));
            all.add(d.stood(p, 45, NOTES));
        }
        for (int what = 0; what < 8; what++) {
            all.add(d.count(what));
        }
        all.add(d.quarrel());
        for (int season = 0; season < 24; season++) {
            all.add(d.sight(0, 7, season / 2, season % 2));
        }
    }

    private static void askPairs(FrontierDesk d, List<Integer> all) {
        for (int a = 0; a < POSTS; a++) {
            for (int b = 0; b < POSTS; b++) {
                all.add(d.sight(a, b, 1, 0));
                all.add(d.block(a, b, true));
                all.add(d.block(a, b, false));
                all.add(d.raise(a, b));
                all.add(d.way(a, b));
            }
        }
    }

    private static void askWhatWasDone(FrontierDesk d, List<Integer> all) {
        all.add(d.joined(0, 0));
        all.add(d.dig());
        for (int k = 0; k <= POSTS; k++) {
            all.add(d.joined(1, k));
            all.add(d.joined(2, k));
            for (int what = 0; what < 3; what++) {
                all.add(d.supplied(k, what));
            }
            for (int word = 0; word < WORDS; word++) {
                for (int what = 0; what < 4; what++) {
                    all.add(d.heard(k, word, what));
                }
            }
        }
        for (int what = 0; what < 5; what++) {
            all.add(d.sent(what));
        }
        all.add(d.fault(0));
        all.add(d.fault(1));
    }

    private static void doMore(FrontierDesk d, List<Integer> all) {
        for (int i = 0; i < 16; i++) {
            int month = i / 8 * 3;
            int kind = i / 4 % 2;
            int year = i / 2 % 2 == 0 ? 100 : 300;
            all.add(d.groups(month, kind, year, 1 + i % 2));
            all.add(d.cuts(month, kind, year, 1 + i % 2));
            all.add(d.join(month, kind, year, 1 + i % 2));
            all.add(d.joined(0, 0));
        }
        for (int p = 0; p < POSTS; p++) {
            all.add(d.send(p, 0, 3, 1, 100));
            all.add(d.sent(1));
        }
        all.add(d.supply(1));
        all.add(d.look(0, 4));
        all.add(d.look(1, 4));
        all.add(d.feed(0, 0, 0, 0, 0));
        all.add(d.rules(10));
        all.add(d.post(1, 1, 1, 1, true, 0));
        all.add(d.note(0, 0, 100));
    }
}
