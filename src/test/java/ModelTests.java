import java.util.Random;

/** Random runs of calls on the class and on the model, answer by answer. Seeds are fixed. */
public final class ModelTests {
    private static final int RUNS = 700;
    private static final int CALLS = 400;

    private final Random dice;
    private final FrontierDesk desk = new FrontierDesk();
    private final Model model = new Model();
    private final String run;
    private final int[] answersSeen;

    private ModelTests(long seed, int[] answersSeen) {
        dice = new Random(seed);
        run = "run " + seed;
        this.answersSeen = answersSeen;
    }

    public static void main(String[] args) {
        int[] answersSeen = new int[40];
        for (long seed = 0; seed < RUNS; seed++) {
            ModelTests test = new ModelTests(seed, answersSeen);
            Due.part(test.run);
            test.settle(seed);
            for (int i = 0; i < CALLS; i++) {
                test.call(1 + test.dice.nextInt(33));
            }
        }
        StringBuilder seen = new StringBuilder();
        for (int promise = 2; promise <= 33; promise++) {
            // A promise whose calls are all refused would be compared in vain.
            Due.yes("promise " + promise + " answered something", answersSeen[promise] > 100);
            seen.append(' ').append(promise).append(':').append(answersSeen[promise]);
        }
        Due.yes("some MESSAGES are SPENT", answersSeen[34] > 3);
        Due.yes("some things are misread", answersSeen[35] > 20);
        Due.yes("some things are read as none", answersSeen[36] > 20);
        Due.yes("some joins have rivals", answersSeen[37] > 50);
        System.out.println("answers that were not refused, by promise:" + seen);
        Due.end();
    }

    private int upTo(int most) {
        return dice.nextInt(most + 1);
    }

    /** Mostly within the bounds, now and then beyond them. */
    private int within(int least, int most) {
        int die = dice.nextInt(60);
        if (die == 0) {
            return least - 1 - dice.nextInt(3);
        }
        if (die == 1) {
            return most + 1 + dice.nextInt(3);
        }
        if (die == 2) {
            return dice.nextInt();
        }
        return least + dice.nextInt(Math.max(1, most - least + 1));
    }

    private int somePost() {
        return within(0, Math.max(0, model.count(2) - 1));
    }

    private int someYear() {
        return within(0, 500);
    }

    private void same(int promise, String call, int got, int want) {
        Due.is(call, got, want);
        if (want >= 0) {
            answersSeen[promise]++;
        }
    }

    private void same(int promise, String call, boolean got, boolean want) {
        same(promise, call, got ? 1 : 0, want ? 1 : 0);
    }

    private void settle(long seed) {
        int w = 4 + upTo(12);
        int h = seed % 3 == 0 ? 4 : 4 + upTo(12);
        same(2, "land(" + w + ", " + h + ")", desk.land(w, h), model.land(w, h));
        int hills = upTo(12);
        for (int i = 0; i < hills; i++) {
            hill();
        }
        int count = 2 + upTo(10);
        for (int i = 0; i < count; i++) {
            call(7);
        }
        text();
    }

    private void hill() {
        int x0 = within(0, model.count(0) - 1);
        int y0 = within(0, model.count(1) - 1);
        int x1 = within(x0, Math.min(model.count(0) - 1, x0 + 2));
        int y1 = within(y0, Math.min(model.count(1) - 1, y0 + 2));
        int high = dice.nextInt(3) > 0 ? upTo(30) : within(0, 999);
        int wood = within(0, 3);
        same(3, "ground(" + x0 + ", " + y0 + ", " + x1 + ", " + y1 + ", " + high + ", " + wood + ")",
                desk.ground(x0, y0, x1, y1, high, wood), model.ground(x0, y0, x1, y1, high, wood));
    }

    private void call(int promise) {
        if (promise <= 7) {
            shape(promise);
        } else if (promise <= 15) {
            asked(promise);
        } else if (promise <= 21) {
            lines(promise);
        } else if (promise <= 27) {
            messages(promise);
        } else {
            carried(promise);
        }
    }

    private void shape(int promise) {
        int a = within(0, promise == 4 ? 3 : 20);
        int b = within(a, promise == 4 ? 60 : 30);
        int month = within(0, 2);
        int kind = within(0, 1);
        switch (promise) {
            case 1 -> {
                int what = within(0, 7);
                same(33, "count(" + what + ")", desk.count(what), model.count(what));
            }
            case 2 -> {
                // Another LAND ends what was built up, so it is rare.
                if (dice.nextInt(25) == 0) {
                    int w = within(4, 16);
                    int h = within(4, 16);
                    same(2, "land(" + w + ", " + h + ")", desk.land(w, h), model.land(w, h));
                }
            }
            case 3 -> hill();
            case 4 -> {
                int low = upTo(20);
                int high = within(low, 30);
                same(4, "trees(" + a + ", " + low + ", " + high + ")", desk.trees(a, low, high),
                        model.trees(a, low, high));
            }
            case 5 -> {
                int bend = dice.nextInt(3) > 0 ? upTo(100) : within(0, 999);
                same(5, "bend(" + bend + ")", desk.bend(bend), model.bend(bend));
            }
            case 6 -> same(6, "haze(" + month + ", " + kind + ", " + a + ", " + b + ")",
                    desk.haze(month, kind, a, b), model.haze(month, kind, a, b));
            default -> {
                int x = within(0, model.count(0) - 1);
                int y = within(0, model.count(1) - 1);
                int low = within(1, 20);
                int high = within(low, 40);
                boolean found = dice.nextInt(5) < 3;
                int men = within(0, 50);
                same(7, "post(" + x + ", " + y + ", " + low + ", " + high + ", " + found + ", " + men + ")",
                        desk.post(x, y, low, high, found, men), model.post(x, y, low, high, found, men));
            }
        }
    }

    private void asked(int promise) {
        int a = somePost();
        int b = somePost();
        int month = within(0, 2);
        int kind = within(0, 1);
        boolean sure = dice.nextBoolean();
        int n = dice.nextBoolean() ? model.count(3) : within(0, model.count(3));
        switch (promise) {
            case 8 -> same(8, "sight(" + a + ", " + b + ", " + month + ", " + kind + ")",
                    desk.sight(a, b, month, kind), model.sight(a, b, month, kind));
            case 9 -> same(9, "block(" + a + ", " + b + ", " + sure + ")", desk.block(a, b, sure),
                    model.block(a, b, sure));
            case 10 -> same(10, "raise(" + a + ", " + b + ")", desk.raise(a, b), model.raise(a, b));
            case 11 -> {
                // Few POSTS' notes at a time: else nearly all runs end in a QUARREL at once.
                int sort = within(0, 5);
                int second = sort == 2 || sort == 3 ? b : sort == 5 ? upTo(150) : sort == 1 ? 300 + upTo(150) : 150 + upTo(150);
                second = dice.nextInt(30) == 0 ? someYear() : second;
                if (dice.nextInt(2) == 0) {
                    same(11, "note(" + sort + ", " + a + ", " + second + ")", desk.note(sort, a, second),
                            model.note(sort, a, second));
                }
            }
            case 12 -> {
                int note = within(0, model.count(3) - 1);
                if (dice.nextInt(2) == 0) {
                    same(12, "strike(" + note + ")", desk.strike(note), model.strike(note));
                }
            }
            case 13 -> {
                int what = within(0, 3);
                same(13, "years(" + a + ", " + n + ", " + what + ")", desk.years(a, n, what),
                        model.years(a, n, what));
            }
            case 14 -> same(14, "quarrel()", desk.quarrel(), model.quarrel());
            default -> {
                int year = someYear();
                same(15, "stood(" + a + ", " + year + ", " + n + ")", desk.stood(a, year, n),
                        model.stood(a, year, n));
            }
        }
    }

    private void lines(int promise) {
        int month = within(0, 2);
        int kind = within(0, 1);
        int year = someYear();
        int level = dice.nextInt(3) > 0 ? 1 : within(1, 2);
        String line = "(" + month + ", " + kind + ", " + year + ", " + level + ")";
        switch (promise) {
            case 16 -> same(16, "groups" + line, desk.groups(month, kind, year, level),
                    model.groups(month, kind, year, level));
            case 17 -> same(17, "cuts" + line, desk.cuts(month, kind, year, level),
                    model.cuts(month, kind, year, level));
            case 18 -> {
                same(18, "join" + line, desk.join(month, kind, year, level),
                        model.join(month, kind, year, level));
                same(20, "dig()", desk.dig(), model.dig());
                answersSeen[37] += model.joined(0, 0) > 1 ? 1 : 0;
            }
            case 19 -> {
                int what = within(0, 2);
                int k = somePost();
                same(19, "joined(" + what + ", " + k + ")", desk.joined(what, k), model.joined(what, k));
            }
            case 20 -> same(20, "dig()", desk.dig(), model.dig());
            default -> {
                int post = somePost();
                boolean found = dice.nextBoolean();
                if (dice.nextInt(4) == 0) {
                    same(21, "dug(" + post + ", " + found + ")", desk.dug(post, found), model.dug(post, found));
                }
            }
        }
    }

    private void messages(int promise) {
        int word = within(0, Math.max(0, model.count(4) - 1));
        int what = within(0, 4);
        int post = somePost();
        switch (promise) {
            case 22 -> {
                if (dice.nextInt(20) == 0) {
                    feed(Due.numbers("word a 1; like 2 3; wor"));
                }
            }
            case 23 -> text();
            case 24 -> same(24, "fault(" + what + ")", desk.fault(what), model.fault(what));
            case 25 -> {
                int month = within(0, 2);
                int kind = within(0, 1);
                int year = someYear();
                int want = model.send(post, word, month, kind, year);
                same(25, "send(" + post + ", " + word + ", " + month + ", " + kind + ", " + year + ")",
                        desk.send(post, word, month, kind, year), want);
                answersSeen[34] += want == -2 ? 1 : 0;
                answersSeen[35] += model.sent(2) > 0 ? 1 : 0;
                answersSeen[36] += model.sent(3) > 0 ? 1 : 0;
                for (int i = 0; i < 5; i++) {
                    same(27, "sent(" + i + ")", desk.sent(i), model.sent(i));
                }
                for (int i = 0; i < 48; i++) {
                    int of = i / 4 % Math.max(1, model.count(4));
                    same(26, "heard(" + i / 4 + ", " + of + ", " + i % 4 + ")",
                            desk.heard(i / 4, of, i % 4), model.heard(i / 4, of, i % 4));
                }
            }
            case 26 -> same(26, "heard(" + post + ", " + word + ", " + what + ")",
                    desk.heard(post, word, what), model.heard(post, word, what));
            default -> same(27, "sent(" + what + ")", desk.sent(what), model.sent(what));
        }
    }

    private void carried(int promise) {
        int a = somePost();
        int b = somePost();
        int what = within(0, promise == 32 ? 6 : 2);
        switch (promise) {
            case 28 -> same(28, "way(" + a + ", " + b + ")", desk.way(a, b), model.way(a, b));
            case 29 -> {
                int rations = dice.nextBoolean() ? upTo(2000) : within(0, 9999);
                same(29, "store(" + a + ", " + rations + ")", desk.store(a, rations), model.store(a, rations));
            }
            case 30 -> {
                int days = within(1, 99);
                same(30, "supply(" + days + ")", desk.supply(days), model.supply(days));
            }
            case 31 -> same(31, "supplied(" + a + ", " + what + ")", desk.supplied(a, what),
                    model.supplied(a, what));
            case 32 -> same(32, "look(" + a + ", " + what + ")", desk.look(a, what), model.look(a, what));
            default -> {
                int of = within(0, 7);
                same(33, "count(" + of + ")", desk.count(of), model.count(of));
            }
        }
    }

    private void feed(int[] n) {
        for (int i = 0; i + 4 < n.length; i += 5) {
            same(22, "feed(" + n[i] + ", ..)", desk.feed(n[i], n[i + 1], n[i + 2], n[i + 3], n[i + 4]),
                    model.feed(n[i], n[i + 1], n[i + 2], n[i + 3], n[i + 4]));
        }
    }

    private void text() {
        String text = someText();
        feed(Due.numbers(text));
        int n = dice.nextInt(40) == 0 ? within(0, text.length()) : text.length();
        same(23, "rules(" + n + ") of " + text, desk.rules(n), model.rules(n));
        same(24, "fault(0) of " + text, desk.fault(0), model.fault(0));
        same(24, "fault(1) of " + text, desk.fault(1), model.fault(1));
    }

    private static final String[] STRAY = {"word", "like", "minutes", "look", "order", "twice", "do",
        "pass", "send", "to", "wait", "stop", "any", ";", ",", "0", "10", "007", "a", "zz", "ninechars",
        "eightchr", "A", "!", "\t", "12", "100", "\u00e9", "99999999999999999999", "\n"};

    private String name(int words) {
        return "abcdefghij".substring(0, 1 + upTo(Math.max(0, Math.min(9, words - 1)))).replaceAll(".*(.)", "$1");
    }

    private String someText() {
        StringBuilder text = new StringBuilder();
        int words = 1 + upTo(dice.nextInt(5) == 0 ? 10 : 4);
        int signs = 2 + upTo(3);
        for (int i = 0; i < words; i++) {
            text.append("word ").append("abcdefghijk".charAt(i));
            int row = 1 + (dice.nextInt(6) == 0 ? upTo(5) : upTo(2));
            for (int s = 0; s < row; s++) {
                text.append(' ').append(1 + dice.nextInt(signs));
            }
            text.append(dice.nextBoolean() ? "; " : ";");
        }
        int likes = dice.nextInt(12) == 0 ? 9 : upTo(2);
        for (int i = 0; i < likes; i++) {
            text.append("like ").append(1 + dice.nextInt(signs)).append(' ').append(1 + dice.nextInt(signs)).append(";\n");
        }
        if (dice.nextBoolean()) {
            text.append("minutes ").append(1 + upTo(8)).append(';');
        }
        if (dice.nextBoolean()) {
            text.append("look ").append(upTo(10)).append(';');
        }
        int orders = dice.nextInt(4) == 0 ? 17 - upTo(6) : 1 + upTo(6);
        for (int i = 0; i < orders && text.length() < 900; i++) {
            order(text, words);
        }
        return marred(text.toString());
    }

    private void order(StringBuilder text, int words) {
        text.append("order ").append(dice.nextInt(3) > 0 ? "any" : String.valueOf(upTo(11))).append(' ');
        text.append(name(words)).append(dice.nextInt(4) == 0 ? " twice do " : " do ");
        int acts = 1 + (dice.nextInt(30) == 0 ? 4 : upTo(3));
        for (int i = 0; i < acts; i++) {
            text.append(i == 0 ? "" : ",");
            switch (dice.nextInt(7)) {
                case 0 -> text.append("wait ").append(1 + upTo(20));
                case 1 -> text.append(dice.nextInt(3) == 0 ? "stop" : "pass");
                case 2, 3 -> text.append("pass");
                case 4 -> text.append("send ").append(name(words)).append(" to ").append(upTo(11));
                default -> text.append("send ").append(name(words));
            }
        }
        text.append(';');
    }

    /** Now and then a token is put in, put in another's place, or taken out. */
    private String marred(String text) {
        String cut = text.length() > 1000 ? text.substring(0, 1000) : text;
        if (dice.nextInt(3) > 0 || cut.length() > 940) {
            return cut;
        }
        int at = dice.nextInt(cut.length());
        int behind = Math.min(cut.length(), at + dice.nextInt(4));
        String stray = dice.nextInt(4) == 0 ? "" : STRAY[dice.nextInt(STRAY.length)];
        String blank = dice.nextBoolean() ? " " : "";
        return cut.substring(0, at) + blank + stray + blank + cut.substring(behind);
    }
}
