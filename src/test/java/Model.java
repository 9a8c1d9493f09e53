import java.util.ArrayList;
import java.util.Arrays;
import java.util.HashMap;
import java.util.HashSet;
import java.util.LinkedHashMap;
import java.util.List;
import java.util.Map;
import java.util.PriorityQueue;
import java.util.Set;
import java.util.TreeMap;
import java.util.TreeSet;
import java.util.regex.Matcher;
import java.util.regex.Pattern;

/**
 * The document once more, written with the whole library and by other ways than the class itself
 * (least paths for years, union of groups, a table of tokens, queues), so that the two can be
 * compared. Where the document leaves a choice, it takes the one that NOTES.md tells.
 */
final class Model {
    static final int NONE = -1;

    static final class Post {
        int x;
        int y;
        int low;
        int high;
        int state;
        int men;
        int store;
    }

    record Note(int sort, int a, int b) {
    }

    record Act(String verb, int number, String word, int to) {
    }

    record Order(int post, String word, boolean twice, List<Act> acts) {
    }

    static final class Book {
        final LinkedHashMap<String, List<Integer>> words = new LinkedHashMap<>();
        final List<int[]> likes = new ArrayList<>();
        final List<Order> orders = new ArrayList<>();
        Integer minutes = null;
        Integer look = null;

        int minutes() {
            return minutes == null ? 2 : minutes;
        }

        int look() {
            return look == null ? 1 : look;
        }

        List<String> names() {
            return new ArrayList<>(words.keySet());
        }
    }

    private int w = 4;
    private int h = 4;
    private int[][] height = new int[16][16];
    private int[][] wood = new int[16][16];
    private final int[][] trees = new int[4][2];
    private int bend = 0;
    private final int[][][] haze = new int[12][2][2];
    private final List<Post> posts = new ArrayList<>();
    private final List<Note> notes = new ArrayList<>();
    private List<Integer> rivals = null;
    private final StringBuilder tape = new StringBuilder();
    private Book book = new Book();
    private int fault = 0;
    private int place = NONE;
    private Talk talk = null;
    private Map<Integer, int[]> supplied = null;

    Model() {
        for (int[][] month : haze) {
            for (int[] kind : month) {
                Arrays.fill(kind, 30);
            }
        }
    }

    private static boolean in(int v, int least, int most) {
        return least <= v && v <= most;
    }

    private Post at(int p) {
        return in(p, 0, posts.size() - 1) ? posts.get(p) : null;
    }

    private boolean stands(int p) {
        return at(p) != null && at(p).state != 2;
    }

    boolean land(int nw, int nh) {
        if (!in(nw, 4, 16) || !in(nh, 4, 16)) {
            return false;
        }
        w = nw;
        h = nh;
        height = new int[16][16];
        wood = new int[16][16];
        posts.clear();
        notes.clear();
        rivals = null;
        talk = null;
        return true;
    }

    boolean ground(int x0, int y0, int x1, int y1, int high, int kind) {
        if (!in(x0, 0, x1) || !in(x1, x0, w - 1) || !in(y0, 0, y1) || !in(y1, y0, h - 1)
                || !in(high, 0, 999) || !in(kind, 0, 3)) {
            return false;
        }
        for (int x = x0; x <= x1; x++) {
            for (int y = y0; y <= y1; y++) {
                height[x][y] = high;
                wood[x][y] = kind;
            }
        }
        return true;
    }

    boolean trees(int kind, int low, int high) {
        if (!in(kind, 1, 3) || !in(low, 0, high) || !in(high, 0, 60)) {
            return false;
        }
        trees[kind] = new int[] {low, high};
        return true;
    }

    boolean bend(int n) {
        if (!in(n, 0, 999)) {
            return false;
        }
        bend = n;
        return true;
    }

    boolean haze(int month, int kind, int worst, int best) {
        if (!in(month, 0, 11) || !in(kind, 0, 1) || !in(worst, 0, best) || !in(best, 0, 30)) {
            return false;
        }
        haze[month][kind] = new int[] {worst, best};
        return true;
    }

    int post(int x, int y, int low, int high, boolean found, int men) {
        if (!in(x, 0, w - 1) || !in(y, 0, h - 1) || !in(low, 1, high) || !in(high, 1, 40)
                || !in(men, 0, 50) || posts.size() == 12) {
            return NONE;
        }
        for (Post other : posts) {
            if (other.x == x && other.y == y) {
                return NONE;
            }
        }
        Post p = new Post();
        p.x = x;
        p.y = y;
        p.low = low;
        p.high = high;
        p.state = found ? 0 : 1;
        p.men = men;
        posts.add(p);
        return posts.size() - 1;
    }

    /** The CELLS of the LINE, by halves that go upward. */
    private List<int[]> lineCells(Post a, Post b) {
        List<int[]> cells = new ArrayList<>();
        int n = Math.max(Math.abs(b.x - a.x), Math.abs(b.y - a.y));
        for (int k = 1; k < n; k++) {
            cells.add(new int[] {a.x + (int) Math.floor((double) (b.x - a.x) * k / n + 0.5),
                a.y + (int) Math.floor((double) (b.y - a.y) * k / n + 0.5)});
        }
        return cells;
    }

    private boolean open(Post a, Post b, int k, int n, int[] cell, boolean sure, int raised) {
        int t = trees[wood[cell[0]][cell[1]]][sure ? 1 : 0];
        long ground = 1000L * (height[cell[0]][cell[1]] + t) + (long) bend * k * (n - k);
        long eyeA = height[a.x][a.y] + (sure ? a.low : a.high) + raised;
        long eyeB = height[b.x][b.y] + (sure ? b.low : b.high);
        return ground * n <= 1000L * (eyeA * (n - k) + eyeB * k);
    }

    private int[] shut(Post a, Post b, boolean sure, int raised) {
        List<int[]> cells = lineCells(a, b);
        for (int k = 1; k <= cells.size(); k++) {
            if (!open(a, b, k, cells.size() + 1, cells.get(k - 1), sure, raised)) {
                return cells.get(k - 1);
            }
        }
        return null;
    }

    private int sight(Post a, Post b, int month, int kind) {
        int far = (a.x - b.x) * (a.x - b.x) + (a.y - b.y) * (a.y - b.y);
        int[] reach = haze[month][kind];
        if (shut(a, b, true, 0) == null && far <= reach[0] * reach[0]) {
            return 2;
        }
        return shut(a, b, false, 0) == null && far <= reach[1] * reach[1] ? 1 : 0;
    }

    int sight(int a, int b, int month, int kind) {
        if (a == b || !stands(a) || !stands(b) || !in(month, 0, 11) || !in(kind, 0, 1)) {
            return NONE;
        }
        return sight(at(a), at(b), month, kind);
    }

    int block(int a, int b, boolean sure) {
        if (a == b || !stands(a) || !stands(b)) {
            return NONE;
        }
        int[] cell = shut(at(a), at(b), sure, 0);
        return cell == null ? NONE : w * cell[1] + cell[0];
    }

    int raise(int a, int b) {
        if (a == b || !stands(a) || !stands(b)) {
            return NONE;
        }
        int metres = 0;
        while (shut(at(a), at(b), true, metres) != null) {
            metres++;
        }
        return metres;
    }

    int note(int sort, int a, int b) {
        if (!in(sort, 0, 5) || at(a) == null || notes.size() == 60) {
            return NONE;
        }
        boolean two = sort == 2 || sort == 3;
        if (two && (at(b) == null || a == b) || !two && !in(b, 0, 500)) {
            return NONE;
        }
        notes.add(new Note(sort, a, b));
        return notes.size() - 1;
    }

    int strike(int note) {
        if (!in(note, 0, notes.size() - 1) || notes.size() == 60) {
            return NONE;
        }
        notes.add(new Note(6, note, 0));
        return notes.size() - 1;
    }

    /** Whether a NOTE holds as KNOWN by n: no later STRIKE of it does. */
    private boolean holds(int i, int n) {
        for (int s = i + 1; s < n; s++) {
            if (notes.get(s).sort() == 6 && notes.get(s).a() == i && holds(s, n)) {
                return false;
            }
        }
        return true;
    }

    /** d[i][j]: how much greater j can be than i at most; node 24 is the year 0. Null in a QUARREL. */
    private int[][] bounds(int n) {
        int[][] d = new int[25][25];
        for (int i = 0; i < 25; i++) {
            Arrays.fill(d[i], i == 24 ? 500 : 1000000);
            d[i][i] = 0;
            d[i][24] = 0;
        }
        for (int p = 0; p < 12; p++) {
            d[2 * p + 1][2 * p] = 0;
        }
        for (int i = 0; i < n; i++) {
            if (holds(i, n)) {
                bind(d, notes.get(i));
            }
        }
        for (int k = 0; k < 25; k++) {
            for (int i = 0; i < 25; i++) {
                for (int j = 0; j < 25; j++) {
                    d[i][j] = Math.min(d[i][j], d[i][k] + d[k][j]);
                }
            }
        }
        for (int i = 0; i < 25; i++) {
            if (d[i][i] < 0) {
                return null;
            }
        }
        return d;
    }

    private static void atMost(int[][] d, int to, int from, int more) {
        d[from][to] = Math.min(d[from][to], more);
    }

    private static void bind(int[][] d, Note note) {
        int begin = 2 * note.a();
        int end = begin + 1;
        int y = note.b();
        switch (note.sort()) {
            case 0 -> {
                atMost(d, begin, 24, y);
                atMost(d, 24, end, -y);
            }
            case 1 -> {
                atMost(d, end, 24, y);
                atMost(d, 24, end, -y);
            }
            case 2 -> atMost(d, 2 * y + 1, begin, 0);
            case 3 -> {
                atMost(d, begin, 2 * y + 1, 0);
                atMost(d, 2 * y, end, 0);
            }
            case 4 -> atMost(d, 24, end, -y);
            case 5 -> atMost(d, 24, begin, -y);
            default -> {
            }
        }
    }

    int years(int p, int n, int what) {
        if (at(p) == null || !in(n, 0, notes.size()) || !in(what, 0, 3)) {
            return NONE;
        }
        int[][] d = bounds(n);
        if (d == null) {
            return NONE;
        }
        int node = 2 * p + what / 2;
        return what % 2 == 0 ? -d[node][24] : d[24][node];
    }

    int quarrel() {
        for (int n = 0; n <= notes.size(); n++) {
            if (bounds(n) == null) {
                return n;
            }
        }
        return NONE;
    }

    private static int stood(int[][] d, int p, int year) {
        if (d == null) {
            return 0;
        }
        if (d[24][2 * p] <= year && -d[2 * p + 1][24] >= year) {
            return 2;
        }
        return -d[2 * p][24] <= year && d[24][2 * p + 1] >= year ? 1 : 0;
    }

    int stood(int p, int year, int n) {
        if (at(p) == null || !in(year, 0, 500) || !in(n, 0, notes.size())) {
            return NONE;
        }
        return stood(bounds(n), p, year);
    }

    private static boolean isLine(int month, int kind, int year, int level) {
        return in(month, 0, 11) && in(kind, 0, 1) && in(year, 0, 500) && in(level, 1, 2);
    }

    private Set<Integer> standing(int state, int year, int level) {
        Set<Integer> all = new TreeSet<>();
        int[][] d = bounds(notes.size());
        for (int p = 0; p < posts.size(); p++) {
            if (posts.get(p).state == state && stood(d, p, year) >= level) {
                all.add(p);
            }
        }
        return all;
    }

    private int link(int a, int b, int month, int kind) {
        return Math.min(sight(at(a), at(b), month, kind), sight(at(b), at(a), month, kind));
    }

    /** The GROUPS that these POSTS are in. */
    private List<Set<Integer>> groupsOf(Set<Integer> members, int month, int kind, int level) {
        List<Set<Integer>> groups = new ArrayList<>();
        for (int p : members) {
            Set<Integer> merged = new TreeSet<>(Set.of(p));
            List<Set<Integer>> others = new ArrayList<>();
            for (Set<Integer> group : groups) {
                boolean meets = false;
                for (int q : group) {
                    meets |= link(p, q, month, kind) >= level;
                }
                if (meets) {
                    merged.addAll(group);
                } else {
                    others.add(group);
                }
            }
            others.add(merged);
            groups = others;
        }
        return groups;
    }

    int groups(int month, int kind, int year, int level) {
        if (!isLine(month, kind, year, level)) {
            return NONE;
        }
        return groupsOf(standing(0, year, level), month, kind, level).size();
    }

    int cuts(int month, int kind, int year, int level) {
        if (!isLine(month, kind, year, level)) {
            return NONE;
        }
        Set<Integer> all = standing(0, year, level);
        int now = groupsOf(all, month, kind, level).size();
        int bits = 0;
        for (int p : all) {
            Set<Integer> others = new TreeSet<>(all);
            others.remove(p);
            if (groupsOf(others, month, kind, level).size() > now) {
                bits |= 1 << p;
            }
        }
        return bits;
    }

    int join(int month, int kind, int year, int level) {
        if (!isLine(month, kind, year, level)) {
            return NONE;
        }
        Set<Integer> found = standing(0, year, level);
        Set<Integer> supposed = standing(1, year, level);
        TreeMap<Integer, List<Integer>> bySize = new TreeMap<>();
        for (int set = 0; set < 1 << posts.size(); set++) {
            Set<Integer> members = new TreeSet<>();
            boolean within = true;
            for (int p = 0; p < posts.size(); p++) {
                if ((set >> p & 1) == 1) {
                    within &= supposed.contains(p);
                    members.add(p);
                }
            }
            if (!within || !bySize.isEmpty() && bySize.firstKey() < members.size()) {
                continue;
            }
            int size = members.size();
            members.addAll(found);
            long with = groupsOf(members, month, kind, level).stream()
                    .filter(g -> g.stream().anyMatch(found::contains)).count();
            if (with <= 1) {
                bySize.computeIfAbsent(size, s -> new ArrayList<>()).add(set);
            }
        }
        rivals = bySize.isEmpty() ? null : bySize.firstEntry().getValue();
        return bySize.isEmpty() ? NONE : bySize.firstKey();
    }

    private int share(int p) {
        return (int) rivals.stream().filter(set -> (set >> p & 1) == 1).count();
    }

    int joined(int what, int k) {
        if (rivals == null) {
            return NONE;
        }
        return switch (what) {
            case 0 -> rivals.size();
            case 1 -> at(k) == null ? NONE : share(k);
            case 2 -> in(k, 0, rivals.size() - 1) ? rivals.get(k) : NONE;
            default -> NONE;
        };
    }

    int dig() {
        int best = NONE;
        for (int p = 0; rivals != null && p < posts.size(); p++) {
            int with = share(p);
            if (with > 0 && with < rivals.size() && (best == NONE
                    || Math.max(with, rivals.size() - with)
                            < Math.max(share(best), rivals.size() - share(best)))) {
                best = p;
            }
        }
        return best;
    }

    boolean dug(int p, boolean found) {
        if (at(p) == null || at(p).state != 1) {
            return false;
        }
        at(p).state = found ? 0 : 2;
        rivals = null;
        return true;
    }

    int feed(int... five) {
        if (tape.length() + 20 > 1000) {
            return NONE;
        }
        for (int n : five) {
            tape.append((char) (n >>> 24)).append((char) (n >>> 16 & 255));
            tape.append((char) (n >>> 8 & 255)).append((char) (n & 255));
        }
        return tape.length();
    }

    int rules(int n) {
        if (n < 0 || n > tape.length()) {
            return -2;
        }
        ModelReader reader = new ModelReader(tape.substring(0, n));
        tape.setLength(0);
        fault = reader.fault;
        place = reader.place;
        if (fault != 0) {
            return NONE;
        }
        book = reader.book;
        talk = null;
        return book.words.size();
    }

    int fault(int what) {
        return what == 0 ? fault : what == 1 ? place : NONE;
    }

    /** Reads a whole text: first all tokens, then LINE by LINE, and gives up by a throw. */
    static final class ModelReader {
        private static final Pattern TOKEN = Pattern.compile("[a-z]+|[0-9]+|[^ \\n]", Pattern.DOTALL);
        private static final Set<String> KEYS = Set.of("word", "like", "minutes", "look", "order",
                "twice", "do", "pass", "send", "to", "wait", "stop", "any");

        private static final class Stop extends RuntimeException {
            private static final long serialVersionUID = 1L;
        }

        final Book book = new Book();
        int fault = 0;
        int place = NONE;
        private final List<String> tokens = new ArrayList<>();
        private final List<Integer> places = new ArrayList<>();
        private final TreeMap<Integer, String> wordsInOrders = new TreeMap<>();
        private int next = 0;

        ModelReader(String text) {
            Matcher m = TOKEN.matcher(text);
            while (m.find()) {
                tokens.add(m.group());
                places.add(m.start());
            }
            tokens.add("");
            places.add(text.length());
            try {
                while (!tokens.get(next).isEmpty()) {
                    line();
                }
                for (Map.Entry<Integer, String> e : wordsInOrders.entrySet()) {
                    if (!book.words.containsKey(e.getValue())) {
                        stop(4, e.getKey());
                    }
                }
            } catch (Stop stopped) {
                return;
            }
        }

        private void stop(int sort, int where) {
            fault = sort;
            place = where;
            throw new Stop();
        }

        private void want(boolean fine, int sort) {
            if (!fine) {
                stop(sort, places.get(next));
            }
        }

        private boolean is(String token) {
            return tokens.get(next).equals(token);
        }

        private void pass(String token) {
            want(is(token), 1);
            next++;
        }

        private boolean atNumber() {
            return tokens.get(next).matches("[0-9]+");
        }

        private int number(int least, int most) {
            want(atNumber(), 1);
            java.math.BigInteger n = new java.math.BigInteger(tokens.get(next));
            want(n.bitLength() < 31 && in(n.intValue(), least, most), 2);
            next++;
            return n.intValue();
        }

        private String word() {
            want(tokens.get(next).matches("[a-z]{1,8}") && !KEYS.contains(tokens.get(next)), 1);
            return tokens.get(next);
        }

        private void line() {
            if (is("word")) {
                want(book.words.size() < 10, 2);
                next++;
                wordLine();
            } else if (is("like")) {
                want(book.likes.size() < 8, 2);
                next++;
                book.likes.add(new int[] {number(1, 9), number(1, 9)});
            } else if (is("minutes")) {
                want(book.minutes == null, 3);
                next++;
                book.minutes = number(1, 9);
            } else if (is("look")) {
                want(book.look == null, 3);
                next++;
                book.look = number(0, 30);
            } else if (is("order")) {
                want(book.orders.size() < 16, 2);
                next++;
                orderLine();
            } else {
                want(false, 1);
            }
            pass(";");
        }

        private void wordLine() {
            String name = word();
            want(!book.words.containsKey(name), 3);
            next++;
            int first = places.get(next);
            List<Integer> row = new ArrayList<>();
            row.add(number(1, 9));
            while (atNumber()) {
                want(row.size() < 5, 2);
                row.add(number(1, 9));
            }
            if (book.words.containsValue(row)) {
                stop(3, first);
            }
            book.words.put(name, row);
        }

        private String orderWord() {
            String name = word();
            wordsInOrders.put(places.get(next), name);
            next++;
            return name;
        }

        private void orderLine() {
            int post = NONE;
            if (is("any")) {
                next++;
            } else {
                post = number(0, 11);
            }
            String name = orderWord();
            boolean twice = is("twice");
            next += twice ? 1 : 0;
            pass("do");
            List<Act> acts = new ArrayList<>();
            acts.add(act());
            while (is(",")) {
                next++;
                want(acts.size() < 4 || !Set.of("pass", "send", "wait", "stop").contains(tokens.get(next)), 2);
                acts.add(act());
            }
            book.orders.add(new Order(post, name, twice, acts));
        }

        private Act act() {
            String verb = tokens.get(next);
            want(Set.of("pass", "send", "wait", "stop").contains(verb), 1);
            next++;
            if (verb.equals("wait")) {
                return new Act(verb, number(1, 99), null, NONE);
            }
            if (!verb.equals("send")) {
                return new Act(verb, 0, null, NONE);
            }
            String name = orderWord();
            if (!is("to")) {
                return new Act(verb, 0, name, NONE);
            }
            next++;
            return new Act(verb, 0, name, number(0, 11));
        }
    }

    record Seen(int minute, int turn, int from, int to, String word) {
    }

    record First(int minute, int from, String sent) {
    }

    /** One MESSAGE. */
    static final class Talk {
        final Map<String, First> firsts = new HashMap<>();
        final Map<String, Set<Integer>> senders = new HashMap<>();
        final Set<Integer> hearers = new HashSet<>();
        final int[] tally = new int[5];
        boolean spent = false;
    }

    private final class Teller {
        final Talk told = new Talk();
        final PriorityQueue<Seen> queue = new PriorityQueue<>((a, b) -> a.minute() != b.minute()
                ? Integer.compare(a.minute(), b.minute()) : Integer.compare(a.turn(), b.turn()));
        final Set<String> done = new HashSet<>();
        final int[] free = new int[12];
        final Integer[] deaf = new Integer[12];
        final int[][] links = new int[12][12];

        Teller(Set<Integer> members, int month, int kind) {
            for (int a : members) {
                for (int b : members) {
                    links[a][b] = a == b ? 0 : link(a, b, month, kind);
                }
            }
        }

        void run(int post, String word) {
            hear(post, word, 0, NONE, word);
            while (!queue.isEmpty() && !told.spent) {
                Seen seen = queue.poll();
                told.tally[1] = seen.minute();
                if (deaf[seen.to()] != null && deaf[seen.to()] <= seen.minute()) {
                    continue;
                }
                String read = links[seen.from()][seen.to()] == 2 ? seen.word() : dimly(seen.word());
                if (read == null) {
                    told.tally[3]++;
                    continue;
                }
                told.tally[2] += read.equals(seen.word()) ? 0 : 1;
                hear(seen.to(), read, seen.minute(), seen.from(), seen.word());
            }
        }

        private int least(int sign) {
            Set<Integer> alike = new TreeSet<>(Set.of(sign));
            for (int round = 0; round < 9; round++) {
                for (int[] like : book.likes) {
                    if (alike.contains(like[0]) || alike.contains(like[1])) {
                        alike.add(like[0]);
                        alike.add(like[1]);
                    }
                }
            }
            return alike.iterator().next();
        }

        private String dimly(String word) {
            List<Integer> row = new ArrayList<>();
            for (int sign : book.words.get(word)) {
                row.add(least(sign));
            }
            for (Map.Entry<String, List<Integer>> e : book.words.entrySet()) {
                if (e.getValue().equals(row)) {
                    return e.getKey();
                }
            }
            return null;
        }

        private void hear(int post, String word, int minute, int from, String sent) {
            String key = post + " " + word;
            told.hearers.add(post);
            told.firsts.putIfAbsent(key, new First(minute, from, sent));
            Set<Integer> all = told.senders.computeIfAbsent(key, k -> new TreeSet<>());
            if (from != NONE) {
                all.add(from);
            }
            for (int i = 0; i < book.orders.size(); i++) {
                Order o = book.orders.get(i);
                if ((o.post() == NONE || o.post() == post) && o.word().equals(word)
                        && (!o.twice() || all.size() >= 2) && done.add(post + " " + i)) {
                    act(o, post, word, Math.max(minute, free[post]), from);
                    return;
                }
            }
        }

        private void act(Order order, int post, String word, int start, int from) {
            told.tally[4]++;
            int now = start;
            for (Act act : order.acts()) {
                if (act.verb().equals("wait")) {
                    now += act.number();
                } else if (act.verb().equals("stop")) {
                    deaf[post] = deaf[post] == null ? now : Math.min(deaf[post], now);
                } else {
                    String what = act.verb().equals("pass") ? word : act.word();
                    now += book.look() + book.minutes() * book.words.get(what).size();
                    for (int p = 0; p < 12; p++) {
                        boolean meant = act.to() == NONE ? p != from : p == act.to();
                        if (links[post][p] > 0 && meant) {
                            see(new Seen(now, told.tally[0], post, p, what));
                        }
                    }
                }
            }
            free[post] = now;
        }

        private void see(Seen seen) {
            if (told.tally[0] == 200) {
                told.spent = true;
                return;
            }
            told.tally[0]++;
            queue.add(seen);
        }
    }

    int send(int post, int word, int month, int kind, int year) {
        if (!in(word, 0, book.words.size() - 1) || !isLine(month, kind, year, 1)) {
            return NONE;
        }
        Set<Integer> members = standing(0, year, 1);
        if (!members.contains(post)) {
            return NONE;
        }
        Teller teller = new Teller(members, month, kind);
        teller.run(post, book.names().get(word));
        talk = teller.told;
        return talk.spent ? -2 : talk.hearers.size();
    }

    int heard(int post, int word, int what) {
        if (talk == null || !in(word, 0, book.words.size() - 1) || !in(what, 0, 3)) {
            return NONE;
        }
        String key = post + " " + book.names().get(word);
        First first = talk.firsts.get(key);
        if (first == null) {
            return NONE;
        }
        return switch (what) {
            case 0 -> first.minute();
            case 1 -> first.from();
            case 2 -> book.names().indexOf(first.sent());
            default -> talk.senders.get(key).size();
        };
    }

    int sent(int what) {
        return talk == null || !in(what, 0, 4) ? NONE : talk.tally[what];
    }

    /** The least costs from a CELL, the nearest CELL settled first. */
    private int[][] costsFrom(Post p) {
        int[][] cost = new int[w][h];
        for (int[] column : cost) {
            Arrays.fill(column, Integer.MAX_VALUE);
        }
        PriorityQueue<int[]> queue = new PriorityQueue<>((a, b) -> Integer.compare(a[0], b[0]));
        queue.add(new int[] {0, p.x, p.y});
        while (!queue.isEmpty()) {
            int[] top = queue.poll();
            int x = top[1];
            int y = top[2];
            if (cost[x][y] != Integer.MAX_VALUE) {
                continue;
            }
            cost[x][y] = top[0];
            for (int[] d : new int[][] {{1, 0}, {-1, 0}, {0, 1}, {0, -1}}) {
                int nx = x + d[0];
                int ny = y + d[1];
                if (in(nx, 0, w - 1) && in(ny, 0, h - 1)) {
                    int up = height[nx][ny] - height[x][y];
                    int more = 10 + Math.max(2 * up, -up) + 5 * wood[nx][ny];
                    queue.add(new int[] {top[0] + more, nx, ny});
                }
            }
        }
        return cost;
    }

    int way(int a, int b) {
        return stands(a) && stands(b) ? costsFrom(at(a))[at(b).x][at(b).y] : NONE;
    }

    boolean store(int p, int rations) {
        if (at(p) == null || at(p).state != 0 || !in(rations, 0, 9999)) {
            return false;
        }
        at(p).store = rations;
        return true;
    }

    int supply(int days) {
        if (!in(days, 1, 99)) {
            return NONE;
        }
        supplied = new HashMap<>();
        for (int p = 0; p < posts.size(); p++) {
            Post post = posts.get(p);
            if (post.state != 2) {
                supplied.put(p, new int[] {0, post.state == 0 ? post.men * days : 0, NONE});
            }
        }
        int[][] way = new int[12][12];
        for (int a = 0; a < posts.size(); a++) {
            int[][] from = costsFrom(posts.get(a));
            for (int b = 0; b < posts.size(); b++) {
                way[a][b] = from[posts.get(b).x][posts.get(b).y];
            }
        }
        int cost = 0;
        while (true) {
            int[] pair = null;
            for (int a = 0; a < posts.size(); a++) {
                for (int b = 0; b < posts.size(); b++) {
                    if (posts.get(a).state == 0 && posts.get(b).state == 0 && posts.get(a).store > 0
                            && supplied.get(b)[1] > 0 && (pair == null || way[a][b] < way[pair[0]][pair[1]])) {
                        pair = new int[] {a, b};
                    }
                }
            }
            if (pair == null) {
                return cost;
            }
            int[] to = supplied.get(pair[1]);
            int rations = Math.min(to[1], posts.get(pair[0]).store);
            posts.get(pair[0]).store -= rations;
            to[2] = to[0] == 0 ? pair[0] : to[2];
            to[0] += rations;
            to[1] -= rations;
            cost += rations * way[pair[0]][pair[1]];
        }
    }

    int supplied(int p, int what) {
        if (supplied == null || !supplied.containsKey(p) || !in(what, 0, 2)) {
            return NONE;
        }
        return supplied.get(p)[what];
    }

    int look(int p, int what) {
        if (at(p) == null || !in(what, 0, 6)) {
            return NONE;
        }
        Post post = at(p);
        return new int[] {post.x, post.y, post.state, post.men, post.store, post.low, post.high}[what];
    }

    int count(int what) {
        if (!in(what, 0, 7)) {
            return NONE;
        }
        return new int[] {w, h, posts.size(), notes.size(), book.words.size(), book.orders.size(),
            book.minutes(), book.look()}[what];
    }
}
