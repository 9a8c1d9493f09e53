import java.util.Arrays;

/**
 * A desk for a lost frontier of signal posts. The document (DOC.md) says what each public method
 * promises; every row that a call needs is made with the object and used again, so that a call
 * makes no objects at all.
 */
public final class FrontierDesk {

    public static final int NONE = -1;

    private static final int REFUSED = -2;

    private static final int MOST_POSTS = 12;
    private static final int MOST_NOTES = 60;
    private static final int MOST_TAPE = 1000;
    private static final int MOST_SEEN = 200;
    private static final int MOST_WORDS = 10;
    private static final int MOST_SIGNS = 5;
    private static final int MOST_LIKES = 8;
    private static final int MOST_ORDERS = 16;
    private static final int MOST_ACTS = 4;

    private static final int LEAST_SIDE = 4;
    private static final int SIDE = 16;
    private static final int MONTHS = 12;
    private static final int KINDS = 2;
    private static final int LAST_YEAR = 500;
    private static final int MOST_STORE = 9999;
    private static final int MOST_DAYS = 99;

    private static final int FOUND = 0;
    private static final int SUPPOSED = 1;
    private static final int EMPTY = 2;

    private static final int MAY = 1;
    private static final int SURE = 2;

    private final Terrain terrain;
    private final Posts posts;
    private final Sights sights;
    private final Notes notes;
    private final Line line;
    private final Rivals rivals;
    private final Tokens tape;
    private final Reader reader;
    private final Message message;
    private final Carriage carriage;
    private Rules orders;

    public FrontierDesk() {
        terrain = new Terrain();
        posts = new Posts(terrain);
        sights = new Sights(terrain, posts);
        notes = new Notes();
        line = new Line(posts, notes, sights);
        rivals = new Rivals();
        tape = new Tokens();
        reader = new Reader(tape);
        orders = new Rules();
        message = new Message(line, orders);
        carriage = new Carriage(terrain, posts);
    }

    public boolean land(int w, int h) {
        if (!terrain.renew(w, h)) {
            return false;
        }
        posts.size = 0;
        notes.clear();
        rivals.clear();
        message.given = false;
        carriage.forgetWays();
        return true;
    }

    public boolean ground(int x0, int y0, int x1, int y1, int height, int wood) {
        if (!terrain.lay(x0, y0, x1, y1, height, wood)) {
            return false;
        }
        carriage.forgetWays();
        return true;
    }

    public boolean trees(int wood, int low, int high) {
        return terrain.plant(wood, low, high);
    }

    public boolean bend(int n) {
        return terrain.curve(n);
    }

    public boolean haze(int month, int kind, int worst, int best) {
        return terrain.veil(month, kind, worst, best);
    }

    public int post(int x, int y, int low, int high, boolean found, int men) {
        return posts.add(x, y, low, high, found, men);
    }

    public int sight(int a, int b, int month, int kind) {
        if (!posts.arePair(a, b) || !isSeason(month, kind)) {
            return NONE;
        }
        return sights.levelOf(a, b, month, kind);
    }

    public int block(int a, int b, boolean sure) {
        if (!posts.arePair(a, b)) {
            return NONE;
        }
        int k = sights.firstShut(a, b, sure);
        return k == 0 ? NONE : sights.numberAt(a, b, k);
    }

    public int raise(int a, int b) {
        return posts.arePair(a, b) ? sights.metresLacking(a, b) : NONE;
    }

    public int note(int sort, int a, int b) {
        if (sort < Notes.TILE || sort > Notes.NOT_YET || !posts.has(a)) {
            return NONE;
        }
        boolean ofTwoPosts = sort == Notes.STONES || sort == Notes.SIGNALLED;
        if (ofTwoPosts ? !posts.has(b) || a == b : !isYear(b)) {
            return NONE;
        }
        return notes.add(sort, a, b);
    }

    public int strike(int note) {
        if (note < 0 || note >= notes.size) {
            return NONE;
        }
        return notes.add(Notes.STRIKE, note, 0);
    }

    public int years(int post, int n, int what) {
        if (!posts.has(post) || !notes.canKnow(n) || what < 0 || what > 3 || !notes.draw(n)) {
            return NONE;
        }
        return notes.edge(post, what);
    }

    public int quarrel() {
        return notes.firstQuarrel();
    }

    public int stood(int post, int year, int n) {
        if (!posts.has(post) || !isYear(year) || !notes.canKnow(n)) {
            return NONE;
        }
        notes.draw(n);
        return notes.standing(post, year);
    }

    public int groups(int month, int kind, int year, int level) {
        if (!isLine(month, kind, year, level)) {
            return NONE;
        }
        line.draw(month, kind, year, level, false);
        return line.groupsAmong(line.found);
    }

    public int cuts(int month, int kind, int year, int level) {
        if (!isLine(month, kind, year, level)) {
            return NONE;
        }
        line.draw(month, kind, year, level, false);
        return line.cutBits();
    }

    public int join(int month, int kind, int year, int level) {
        if (!isLine(month, kind, year, level)) {
            return NONE;
        }
        line.draw(month, kind, year, level, true);
        return rivals.find(line);
    }

    public int joined(int what, int k) {
        if (!rivals.any) {
            return NONE;
        }
        switch (what) {
            case 0:
                return rivals.size;
            case 1:
                return posts.has(k) ? rivals.shares[k] : NONE;
            case 2:
                return k >= 0 && k < rivals.size ? rivals.sets[k] : NONE;
            default:
                return NONE;
        }
    }

    public int dig() {
        return rivals.any ? rivals.nextToDig() : NONE;
    }

    public boolean dug(int post, boolean found) {
        if (!posts.has(post) || posts.states[post] != SUPPOSED) {
            return false;
        }
        posts.states[post] = found ? FOUND : EMPTY;
        rivals.clear();
        return true;
    }

    public int feed(int a, int b, int c, int d, int e) {
        if (!tape.hasRoom()) {
            return NONE;
        }
        tape.append(a);
        tape.append(b);
        tape.append(c);
        tape.append(d);
        tape.append(e);
        return tape.size;
    }

    public int rules(int n) {
        if (n < 0 || n > tape.size) {
            return REFUSED;
        }
        boolean clean = reader.read(n);
        tape.size = 0;
        if (!clean) {
            return NONE;
        }
        orders = reader.exchange(orders);
        message.given = false;
        return orders.words;
    }

    public int fault(int what) {
        switch (what) {
            case 0:
                return reader.faultSort;
            case 1:
                return reader.faultPlace;
            default:
                return NONE;
        }
    }

    public int send(int post, int word, int month, int kind, int year) {
        if (word < 0 || word >= orders.words || !posts.has(post) || !isLine(month, kind, year, MAY)) {
            return NONE;
        }
        line.draw(month, kind, year, MAY, false);
        if ((line.found >> post & 1) == 0) {
            return NONE;
        }
        return message.run(orders, post, word);
    }

    public int heard(int post, int word, int what) {
        if (!message.given || !posts.has(post) || word < 0 || word >= orders.words) {
            return NONE;
        }
        return message.hearing(post, word, what);
    }

    public int sent(int what) {
        return message.given && what >= 0 && what < Message.TALLIES ? message.tallies[what] : NONE;
    }

    public int way(int a, int b) {
        if (!posts.stands(a) || !posts.stands(b)) {
            return NONE;
        }
        carriage.measure(a);
        return carriage.costs[a][posts.cells[b]];
    }

    public boolean store(int post, int rations) {
        if (!posts.has(post) || posts.states[post] != FOUND || rations < 0 || rations > MOST_STORE) {
            return false;
        }
        posts.stores[post] = rations;
        return true;
    }

    public int supply(int days) {
        if (days < 1 || days > MOST_DAYS) {
            return NONE;
        }
        carriage.measureAll();
        return carriage.carryAll(days);
    }

    public int supplied(int post, int what) {
        return carriage.told(post, what);
    }

    public int look(int post, int what) {
        return posts.has(post) ? posts.trait(post, what) : NONE;
    }

    public int count(int what) {
        switch (what) {
            case 0:
                return terrain.width;
            case 1:
                return terrain.height;
            case 2:
                return posts.size;
            case 3:
                return notes.size;
            case 4:
                return orders.words;
            case 5:
                return orders.orders;
            case 6:
                return orders.minutes;
            case 7:
                return orders.look;
            default:
                return NONE;
        }
    }

    private static boolean isSeason(int month, int kind) {
        return month >= 0 && month < MONTHS && kind >= 0 && kind < KINDS;
    }

    private static boolean isYear(int year) {
        return year >= 0 && year <= LAST_YEAR;
    }

    private static boolean isLine(int month, int kind, int year, int level) {
        return isSeason(month, kind) && isYear(year) && (level == MAY || level == SURE);
    }

    /** The LAND with all that lies over it: TREES, BEND and HAZE. */
    private static final class Terrain {
        static final int CELLS = SIDE * SIDE;

        private static final int MOST_HEIGHT = 999;
        private static final int WOODS = 4;
        private static final int MOST_TREES = 60;
        private static final int MOST_BEND = 999;
        private static final int MOST_HAZE = 30;

        final int[] heights = new int[CELLS];
        final int[] woods = new int[CELLS];
        final int[] treesLow = new int[WOODS];
        final int[] treesHigh = new int[WOODS];
        final int[] worst = new int[MONTHS * KINDS];
        final int[] best = new int[MONTHS * KINDS];
        int width = LEAST_SIDE;
        int height = LEAST_SIDE;
        int bending = 0;

        Terrain() {
            Arrays.fill(worst, MOST_HAZE);
            Arrays.fill(best, MOST_HAZE);
        }

        boolean renew(int w, int h) {
            if (w < LEAST_SIDE || w > SIDE || h < LEAST_SIDE || h > SIDE) {
                return false;
            }
            width = w;
            height = h;
            Arrays.fill(heights, 0);
            Arrays.fill(woods, 0);
            return true;
        }

        boolean has(int x, int y) {
            return x >= 0 && x < width && y >= 0 && y < height;
        }

        // Rows are always as long as the widest LAND's, so that a CELL's place hangs on x and y alone.
        static int cell(int x, int y) {
            return y * SIDE + x;
        }

        boolean lay(int x0, int y0, int x1, int y1, int high, int wood) {
            if (!has(x0, y0) || !has(x1, y1) || x0 > x1 || y0 > y1) {
                return false;
            }
            if (high < 0 || high > MOST_HEIGHT || wood < 0 || wood >= WOODS) {
                return false;
            }
            for (int y = y0; y <= y1; y++) {
                for (int x = x0; x <= x1; x++) {
                    heights[cell(x, y)] = high;
                    woods[cell(x, y)] = wood;
                }
            }
            return true;
        }

        boolean plant(int wood, int low, int high) {
            if (wood < 1 || wood >= WOODS || low < 0 || low > high || high > MOST_TREES) {
                return false;
            }
            treesLow[wood] = low;
            treesHigh[wood] = high;
            return true;
        }

        boolean curve(int n) {
            if (n < 0 || n > MOST_BEND) {
                return false;
            }
            bending = n;
            return true;
        }

        boolean veil(int month, int kind, int least, int most) {
            if (!isSeason(month, kind) || least < 0 || least > most || most > MOST_HAZE) {
                return false;
            }
            worst[month * KINDS + kind] = least;
            best[month * KINDS + kind] = most;
            return true;
        }

        int topAt(int cell, boolean sure) {
            int wood = woods[cell];
            return heights[cell] + (sure ? treesHigh[wood] : treesLow[wood]);
        }
    }

    private static final class Posts {
        private static final int MOST_TOWER = 40;
        private static final int MOST_MEN = 50;

        final Terrain terrain;
        final int[] xs = new int[MOST_POSTS];
        final int[] ys = new int[MOST_POSTS];
        final int[] cells = new int[MOST_POSTS];
        final int[] lows = new int[MOST_POSTS];
        final int[] highs = new int[MOST_POSTS];
        final int[] states = new int[MOST_POSTS];
        final int[] men = new int[MOST_POSTS];
        final int[] stores = new int[MOST_POSTS];
        int size = 0;

        Posts(Terrain terrain) {
            this.terrain = terrain;
        }

        int add(int x, int y, int low, int high, boolean found, int crew) {
            if (!terrain.has(x, y) || low < 1 || low > high || high > MOST_TOWER) {
                return NONE;
            }
            if (crew < 0 || crew > MOST_MEN || size >= MOST_POSTS || isTaken(x, y)) {
                return NONE;
            }
            xs[size] = x;
            ys[size] = y;
            cells[size] = Terrain.cell(x, y);
            lows[size] = low;
            highs[size] = high;
            states[size] = found ? FOUND : SUPPOSED;
            men[size] = crew;
            stores[size] = 0;
            size++;
            return size - 1;
        }

        // An EMPTY one keeps its CELL, so it counts here, too.
        private boolean isTaken(int x, int y) {
            for (int p = 0; p < size; p++) {
                if (xs[p] == x && ys[p] == y) {
                    return true;
                }
            }
            return false;
        }

        boolean has(int p) {
            return p >= 0 && p < size;
        }

        boolean stands(int p) {
            return has(p) && states[p] != EMPTY;
        }

        boolean arePair(int a, int b) {
            return a != b && stands(a) && stands(b);
        }

        int eyeOf(int p, boolean sure) {
            return terrain.heights[cells[p]] + (sure ? lows[p] : highs[p]);
        }

        int trait(int p, int what) {
            switch (what) {
                case 0:
                    return xs[p];
                case 1:
                    return ys[p];
                case 2:
                    return states[p];
                case 3:
                    return men[p];
                case 4:
                    return stores[p];
                case 5:
                    return lows[p];
                case 6:
                    return highs[p];
                default:
                    return NONE;
            }
        }
    }

    /** Who sees whom. All its POSTS are a pair: two that stand, at different CELLS. */
    private static final class Sights {
        private static final int BEND_UNIT = 1000;

        final Terrain terrain;
        final Posts posts;

        Sights(Terrain terrain, Posts posts) {
            this.terrain = terrain;
            this.posts = posts;
        }

        private int span(int a, int b) {
            int dx = Math.abs(posts.xs[b] - posts.xs[a]);
            int dy = Math.abs(posts.ys[b] - posts.ys[a]);
            return Math.max(dx, dy);
        }

        /** The CELL at k as the document numbers it: W times y and x. */
        int numberAt(int a, int b, int k) {
            int n = span(a, b);
            int x = between(posts.xs[a], posts.xs[b], k, n);
            int y = between(posts.ys[a], posts.ys[b], k, n);
            return terrain.width * y + x;
        }

        // The way from 0 on is divided, not that from the first POST: it is never below 0, where
        // Java's division would take a half the other way.
        private static int between(int from, int to, int k, int n) {
            return n < 1 ? from : (2 * (from * (n - k) + to * k) + n) / (2 * n);
        }

        /** How far the ground at k stands above the line from eye to eye, in metres times 1000 N. */
        private int excess(int a, int b, int k, int n, boolean sure) {
            int x = between(posts.xs[a], posts.xs[b], k, n);
            int y = between(posts.ys[a], posts.ys[b], k, n);
            int metres = terrain.topAt(Terrain.cell(x, y), sure);
            int top = BEND_UNIT * metres + terrain.bending * k * (n - k);
            int eyes = posts.eyeOf(a, sure) * (n - k) + posts.eyeOf(b, sure) * k;
            return top * n - BEND_UNIT * eyes;
        }

        /** The least k at which the LINE is not OPEN; 0 if it is OPEN. */
        int firstShut(int a, int b, boolean sure) {
            int n = span(a, b);
            for (int k = 1; k < n; k++) {
                if (excess(a, b, k, n, sure) > 0) {
                    return k;
                }
            }
            return 0;
        }

        int metresLacking(int a, int b) {
            int n = span(a, b);
            int most = 0;
            for (int k = 1; k < n; k++) {
                // A metre more of a's TOWER lifts the line at k by (N - k) by N.
                int lift = BEND_UNIT * (n - k);
                int lacking = Math.max(0, excess(a, b, k, n, true));
                most = Math.max(most, (lacking + lift - 1) / lift);
            }
            return most;
        }

        int levelOf(int a, int b, int month, int kind) {
            int season = month * KINDS + kind;
            if (reaches(a, b, terrain.worst[season]) && firstShut(a, b, true) == 0) {
                return SURE;
            }
            return reaches(a, b, terrain.best[season]) && firstShut(a, b, false) == 0 ? MAY : 0;
        }

        private boolean reaches(int a, int b, int cells) {
            int dx = posts.xs[b] - posts.xs[a];
            int dy = posts.ys[b] - posts.ys[a];
            return dx * dx + dy * dy <= cells * cells;
        }

        int linkOf(int a, int b, int month, int kind) {
            int there = levelOf(a, b, month, kind);
            return there == 0 ? 0 : Math.min(there, levelOf(b, a, month, kind));
        }
    }

    /**
     * NOTES, and the years drawn from them. All NOTES say either how early or late one BEGIN or END
     * is, or that one of them is not later than another: so the least years are those to which the
     * lower bounds go when they are handed on, the greatest likewise, and there is a QUARREL just
     * when some least year comes out above its greatest.
     */
    private static final class Notes {
        static final int TILE = 0;
        static final int BURNT = 1;
        static final int STONES = 2;
        static final int SIGNALLED = 3;
        static final int COIN = 4;
        static final int NOT_YET = 5;
        static final int STRIKE = 6;

        private static final int EDGES = 2 * MOST_POSTS;

        final int[] sorts = new int[MOST_NOTES];
        final int[] firsts = new int[MOST_NOTES];
        final int[] seconds = new int[MOST_NOTES];
        final boolean[] struck = new boolean[MOST_NOTES];
        final int[] least = new int[EDGES];
        final int[] greatest = new int[EDGES];
        int size = 0;
        int drawnFor = NONE;
        boolean agree = true;
        int quietUpTo = 0;

        void clear() {
            size = 0;
            drawnFor = NONE;
            quietUpTo = 0;
        }

        int add(int sort, int first, int second) {
            if (size >= MOST_NOTES) {
                return NONE;
            }
            sorts[size] = sort;
            firsts[size] = first;
            seconds[size] = second;
            size++;
            return size - 1;
        }

        boolean canKnow(int n) {
            return n >= 0 && n <= size;
        }

        private static int begin(int post) {
            return 2 * post;
        }

        private static int end(int post) {
            return 2 * post + 1;
        }

        /** Draws all years as KNOWN by n; false in a QUARREL. */
        boolean draw(int n) {
            // What the first n NOTES say never changes on one LAND, whatever comes behind them.
            if (n == drawnFor) {
                return agree;
            }
            drawnFor = n;
            markStruck(n);
            Arrays.fill(least, 0);
            Arrays.fill(greatest, LAST_YEAR);
            for (int i = 0; i < n; i++) {
                if (!struck[i]) {
                    setBounds(i);
                }
            }
            boolean moved = true;
            for (int round = 0; moved && round < EDGES; round++) {
                moved = handOn(n);
            }
            agree = boundsMeet();
            return agree;
        }

        private void markStruck(int n) {
            for (int i = 0; i < n; i++) {
                struck[i] = false;
            }
            for (int i = n - 1; i >= 0; i--) {
                if (sorts[i] == STRIKE && !struck[i]) {
                    struck[firsts[i]] = true;
                }
            }
        }

        private void setBounds(int i) {
            int year = seconds[i];
            switch (sorts[i]) {
                case TILE:
                    notAfter(begin(firsts[i]), year);
                    notBefore(end(firsts[i]), year);
                    break;
                case BURNT:
                    notAfter(end(firsts[i]), year);
                    notBefore(end(firsts[i]), year);
                    break;
                case COIN:
                    notBefore(end(firsts[i]), year);
                    break;
                case NOT_YET:
                    notBefore(begin(firsts[i]), year);
                    break;
                default:
                    break;
            }
        }

        private void notBefore(int edge, int year) {
            least[edge] = Math.max(least[edge], year);
        }

        private void notAfter(int edge, int year) {
            greatest[edge] = Math.min(greatest[edge], year);
        }

        private boolean handOn(int n) {
            boolean moved = false;
            for (int p = 0; p < MOST_POSTS; p++) {
                moved |= inOrder(begin(p), end(p));
            }
            for (int i = 0; i < n; i++) {
                if (!struck[i] && sorts[i] == STONES) {
                    moved |= inOrder(end(seconds[i]), begin(firsts[i]));
                } else if (!struck[i] && sorts[i] == SIGNALLED) {
                    moved |= inOrder(begin(firsts[i]), end(seconds[i]));
                    moved |= inOrder(begin(seconds[i]), end(firsts[i]));
                }
            }
            return moved;
        }

        private boolean inOrder(int early, int late) {
            boolean moved = least[late] < least[early] || greatest[early] > greatest[late];
            notBefore(late, least[early]);
            notAfter(early, greatest[late]);
            return moved;
        }

        private boolean boundsMeet() {
            for (int i = 0; i < EDGES; i++) {
                if (least[i] > greatest[i]) {
                    return false;
                }
            }
            return true;
        }

        int edge(int post, int what) {
            int edge = what < 2 ? begin(post) : end(post);
            return what % 2 == 0 ? least[edge] : greatest[edge];
        }

        int firstQuarrel() {
            for (int n = quietUpTo + 1; n <= size; n++) {
                if (!draw(n)) {
                    return n;
                }
                quietUpTo = n;
            }
            return NONE;
        }

        /** How a POST STOOD by the years that were drawn last. */
        int standing(int post, int year) {
            if (!agree) {
                return 0;
            }
            if (greatest[begin(post)] <= year && least[end(post)] >= year) {
                return SURE;
            }
            return least[begin(post)] <= year && greatest[end(post)] >= year ? MAY : 0;
        }
    }

    /** The LINE OF POSTS as last drawn; sets of POSTS are bits. */
    private static final class Line {
        final Posts posts;
        final Notes notes;
        final Sights sights;
        final int[] near = new int[MOST_POSTS];
        final int[] clear = new int[MOST_POSTS];
        int found = 0;
        int supposed = 0;

        Line(Posts posts, Notes notes, Sights sights) {
            this.posts = posts;
            this.notes = notes;
            this.sights = sights;
        }

        void draw(int month, int kind, int year, int level, boolean withSupposed) {
            notes.draw(notes.size);
            found = standingAs(FOUND, year, level);
            supposed = withSupposed ? standingAs(SUPPOSED, year, level) : 0;
            Arrays.fill(near, 0);
            Arrays.fill(clear, 0);
            int members = found | supposed;
            for (int a = 0; a < posts.size; a++) {
                for (int b = a + 1; b < posts.size; b++) {
                    if ((members >> a & members >> b & 1) == 1) {
                        tie(a, b, sights.linkOf(a, b, month, kind), level);
                    }
                }
            }
        }

        private int standingAs(int state, int year, int level) {
            int bits = 0;
            for (int p = 0; p < posts.size; p++) {
                if (posts.states[p] == state && notes.standing(p, year) >= level) {
                    bits |= 1 << p;
                }
            }
            return bits;
        }

        private void tie(int a, int b, int link, int level) {
            if (link >= level) {
                near[a] |= 1 << b;
                near[b] |= 1 << a;
            }
            if (link == SURE) {
                clear[a] |= 1 << b;
                clear[b] |= 1 << a;
            }
        }

        /** All among the members that rows of joined members lead to from those in start. */
        private int reach(int start, int members) {
            int reached = start;
            int fresh = start;
            for (int turn = 0; turn < MOST_POSTS && fresh != 0; turn++) {
                int p = Integer.numberOfTrailingZeros(fresh);
                int more = p < MOST_POSTS ? near[p] & members & ~reached : 0;
                reached |= more;
                fresh = fresh & (fresh - 1) | more;
            }
            return reached;
        }

        int groupsAmong(int members) {
            int left = members;
            int groups = 0;
            for (int p = 0; p < MOST_POSTS; p++) {
                if ((left >> p & 1) == 1) {
                    left &= ~reach(1 << p, members);
                    groups++;
                }
            }
            return groups;
        }

        int cutBits() {
            int whole = groupsAmong(found);
            int bits = 0;
            for (int p = 0; p < MOST_POSTS; p++) {
                if ((found >> p & 1) == 1 && groupsAmong(found & ~(1 << p)) > whole) {
                    bits |= 1 << p;
                }
            }
            return bits;
        }

        boolean isOneWith(int set) {
            int first = found & -found;
            return (found & ~reach(first, found | set)) == 0;
        }
    }

    /** What the latest join() found, as it was then. */
    private static final class Rivals {
        // With two FOUND POSTS to be joined at most ten are SUPPOSED, and ten have 252 sets of five.
        private static final int MOST_RIVALS = 252;
        private static final int ALL_SETS = 1 << MOST_POSTS;

        final int[] sets = new int[MOST_RIVALS];
        final int[] shares = new int[MOST_POSTS];
        int size = 0;
        int fewest = NONE;
        boolean any = false;

        void clear() {
            any = false;
            size = 0;
        }

        int find(Line line) {
            clear();
            if (!line.isOneWith(line.supposed)) {
                return NONE;
            }
            any = true;
            gather(line);
            countShares();
            return fewest;
        }

        // Sets come by their numbers, rising: the subtraction goes to the next one within the supposed.
        private void gather(Line line) {
            int supposed = line.supposed;
            int set = 0;
            fewest = MOST_POSTS;
            for (int turn = 0; turn < ALL_SETS; turn++) {
                int posts = Integer.bitCount(set);
                if (posts <= fewest && line.isOneWith(set)) {
                    take(set, posts);
                }
                set = (set - supposed) & supposed;
                if (set == 0 || fewest == 0) {
                    break;
                }
            }
        }

        private void take(int set, int posts) {
            if (posts < fewest) {
                fewest = posts;
                size = 0;
            }
            if (size < MOST_RIVALS) {
                sets[size] = set;
                size++;
            }
        }

        private void countShares() {
            Arrays.fill(shares, 0);
            for (int i = 0; i < size; i++) {
                for (int p = 0; p < MOST_POSTS; p++) {
                    shares[p] += sets[i] >> p & 1;
                }
            }
        }

        int nextToDig() {
            int best = NONE;
            int bestGreater = size;
            for (int p = 0; p < MOST_POSTS; p++) {
                int greater = Math.max(shares[p], size - shares[p]);
                if (greater < bestGreater) {
                    best = p;
                    bestGreater = greater;
                }
            }
            return best;
        }
    }

    /** RULES without a FAULT. A row of S is kept as the number whose digits they are (none is 0). */
    private static final class Rules {
        static final int SIGNS = 10;
        static final int ANY_POST = -1;
        static final int ALL_NEAR = -1;

        final long[] names = new long[MOST_WORDS];
        final int[] rows = new int[MOST_WORDS];
        final int[] lengths = new int[MOST_WORDS];
        final int[] dim = new int[SIGNS];
        final int[] orderPosts = new int[MOST_ORDERS];
        final int[] orderWords = new int[MOST_ORDERS];
        final boolean[] orderTwice = new boolean[MOST_ORDERS];
        final int[] actCounts = new int[MOST_ORDERS];
        final int[] acts = new int[MOST_ORDERS * MOST_ACTS];
        final int[] actNumbers = new int[MOST_ORDERS * MOST_ACTS];
        final int[] actPosts = new int[MOST_ORDERS * MOST_ACTS];
        int words = 0;
        int likes = 0;
        int orders = 0;
        int minutes = 2;
        int look = 1;

        void clear() {
            words = 0;
            likes = 0;
            orders = 0;
            minutes = 2;
            look = 1;
            for (int s = 0; s < SIGNS; s++) {
                dim[s] = s;
            }
        }

        int wordNamed(long name) {
            for (int w = 0; w < words; w++) {
                if (names[w] == name) {
                    return w;
                }
            }
            return NONE;
        }

        int wordOfRow(int row) {
            for (int w = 0; w < words; w++) {
                if (rows[w] == row) {
                    return w;
                }
            }
            return NONE;
        }

        void addWord(long name, int row, int length) {
            if (words < MOST_WORDS) {
                names[words] = name;
                rows[words] = row;
                lengths[words] = length;
                words++;
            }
        }

        void addLike(int a, int b) {
            int least = Math.min(dim[a], dim[b]);
            int other = Math.max(dim[a], dim[b]);
            for (int s = 0; s < SIGNS; s++) {
                if (dim[s] == other) {
                    dim[s] = least;
                }
            }
            likes++;
        }

        int readDimly(int word) {
            int left = rows[word];
            int row = 0;
            int unit = 1;
            for (int i = 0; i < MOST_SIGNS && left > 0; i++) {
                row += dim[left % 10] * unit;
                unit *= 10;
                left /= 10;
            }
            return wordOfRow(row);
        }

        int minutesToSend(int word) {
            return look + minutes * lengths[word];
        }
    }

    /** The TAPE, and the TOKENS of its first bytes, one after the other. */
    private static final class Tokens {
        static final int END = 0;
        static final int NAME = 1;
        static final int NUMBER = 2;
        static final int SEMICOLON = 3;
        static final int COMMA = 4;
        static final int BAD = 5;

        static final int WORD = 0;
        static final int LIKE = 1;
        static final int MINUTES = 2;
        static final int LOOK = 3;
        static final int ORDER = 4;
        static final int TWICE = 5;
        static final int DO = 6;
        static final int PASS = 7;
        static final int SEND = 8;
        static final int TO = 9;
        static final int WAIT = 10;
        static final int STOP = 11;
        static final int ANY = 12;

        private static final String KEYWORDS =
                "word like minutes look order twice do pass send to wait stop any ";
        private static final int KEYS = 13;
        private static final int BYTES_FED = 20;
        private static final int MOST_LETTERS = 8;
        private static final int BEYOND_ALL = 1000;

        final int[] bytes = new int[MOST_TAPE];
        final long[] keyNames = new long[KEYS];
        int size = 0;
        int length = 0;
        int next = 0;
        int kind = END;
        int place = 0;
        int number = 0;
        long name = 0;
        int key = NONE;

        Tokens() {
            int k = 0;
            for (int i = 0; i < KEYWORDS.length() && k < KEYS; i++) {
                char sign = KEYWORDS.charAt(i);
                if (sign == ' ') {
                    k++;
                } else {
                    keyNames[k] = withLetter(keyNames[k], sign);
                }
            }
        }

        // Five bits a letter, none of them 0: eight letters fit, and no two names share a number.
        private static long withLetter(long name, int letter) {
            return name * 32 + (letter - 'a' + 1);
        }

        boolean hasRoom() {
            return size + BYTES_FED <= MOST_TAPE;
        }

        void append(int four) {
            for (int shift = 24; shift >= 0 && size < MOST_TAPE; shift -= 8) {
                bytes[size] = four >> shift & 255;
                size++;
            }
        }

        void start(int n) {
            length = n;
            next = 0;
            advance();
        }

        void advance() {
            while (next < length && (bytes[next] == 32 || bytes[next] == 10)) {
                next++;
            }
            place = next;
            key = NONE;
            if (next >= length) {
                kind = END;
            } else if (isLetter(bytes[next])) {
                takeName();
            } else if (isDigit(bytes[next])) {
                takeNumber();
            } else {
                takeMark();
            }
        }

        private static boolean isLetter(int sign) {
            return sign >= 'a' && sign <= 'z';
        }

        private static boolean isDigit(int sign) {
            return sign >= '0' && sign <= '9';
        }

        private void takeName() {
            name = 0;
            while (next < length && isLetter(bytes[next])) {
                if (next - place < MOST_LETTERS) {
                    name = withLetter(name, bytes[next]);
                }
                next++;
            }
            kind = next - place > MOST_LETTERS ? BAD : NAME;
            if (kind == NAME) {
                key = keyOf(name);
            }
        }

        private int keyOf(long sought) {
            for (int k = 0; k < KEYS; k++) {
                if (keyNames[k] == sought) {
                    return k;
                }
            }
            return NONE;
        }

        private void takeNumber() {
            number = 0;
            while (next < length && isDigit(bytes[next])) {
                number = Math.min(number * 10 + bytes[next] - '0', BEYOND_ALL);
                next++;
            }
            kind = NUMBER;
        }

        private void takeMark() {
            int sign = bytes[next];
            kind = sign == ';' ? SEMICOLON : sign == ',' ? COMMA : BAD;
            next++;
        }
    }

    /** Reads RULES. Each reading method answers false as soon as a FAULT is set. */
    private static final class Reader {
        private static final int MISPLACED = 1;
        private static final int BEYOND = 2;
        private static final int AGAIN = 3;
        private static final int UNTOLD = 4;

        private static final int LAST_SIGN = 9;
        private static final int MOST_MINUTES = 9;
        private static final int MOST_LOOK = 30;
        private static final int MOST_WAIT = 99;

        final Tokens tokens;
        final long[] orderNames = new long[MOST_ORDERS];
        final int[] orderPlaces = new int[MOST_ORDERS];
        final long[] actNames = new long[MOST_ORDERS * MOST_ACTS];
        final int[] actPlaces = new int[MOST_ORDERS * MOST_ACTS];
        Rules rules;
        boolean minutesTold = false;
        boolean lookTold = false;
        int faultSort = 0;
        int faultPlace = NONE;

        Reader(Tokens tokens) {
            this.tokens = tokens;
            rules = new Rules();
        }

        boolean read(int n) {
            begin(n);
            boolean clean = true;
            // A LINE takes at least one byte, so n of them are as many as there can be.
            for (int i = 0; i < n && clean && tokens.kind != Tokens.END; i++) {
                int place = tokens.place;
                switch (tokens.key) {
                    case Tokens.WORD:
                        clean = rules.words < MOST_WORDS ? readWord() : fail(BEYOND, place);
                        break;
                    case Tokens.LIKE:
                        clean = rules.likes < MOST_LIKES ? readLike() : fail(BEYOND, place);
                        break;
                    case Tokens.MINUTES:
                        clean = minutesTold ? fail(AGAIN, place) : readMinutes();
                        break;
                    case Tokens.LOOK:
                        clean = lookTold ? fail(AGAIN, place) : readLook();
                        break;
                    case Tokens.ORDER:
                        clean = rules.orders < MOST_ORDERS
                                ? readOrder(rules.orders) && readActs(rules.orders - 1)
                                : fail(BEYOND, place);
                        break;
                    default:
                        clean = fail(MISPLACED, place);
                        break;
                }
                clean = clean && passMark(Tokens.SEMICOLON);
            }
            return clean && findOrderWords();
        }

        private void begin(int n) {
            rules.clear();
            minutesTold = false;
            lookTold = false;
            faultSort = 0;
            faultPlace = NONE;
            tokens.start(n);
        }

        /** Hands out the RULES just read, and writes the next ones over the old. */
        Rules exchange(Rules old) {
            Rules fresh = rules;
            rules = old;
            return fresh;
        }

        private boolean fail(int sort, int place) {
            faultSort = sort;
            faultPlace = place;
            return false;
        }

        private boolean passMark(int kind) {
            if (tokens.kind != kind) {
                return fail(MISPLACED, tokens.place);
            }
            tokens.advance();
            return true;
        }

        private boolean passKey(int key) {
            if (tokens.key != key) {
                return fail(MISPLACED, tokens.place);
            }
            tokens.advance();
            return true;
        }

        private boolean atName() {
            return tokens.kind == Tokens.NAME && tokens.key == NONE || fail(MISPLACED, tokens.place);
        }

        private boolean atNumber(int least, int most) {
            if (tokens.kind != Tokens.NUMBER) {
                return fail(MISPLACED, tokens.place);
            }
            return tokens.number >= least && tokens.number <= most || fail(BEYOND, tokens.place);
        }

        private boolean readWord() {
            tokens.advance();
            if (!atName()) {
                return false;
            }
            long name = tokens.name;
            if (rules.wordNamed(name) != NONE) {
                return fail(AGAIN, tokens.place);
            }
            tokens.advance();
            int place = tokens.place;
            int row = 0;
            int length = 0;
            do {
                if (!atNumber(1, LAST_SIGN)) {
                    return false;
                }
                if (length == MOST_SIGNS) {
                    return fail(BEYOND, tokens.place);
                }
                row = row * 10 + tokens.number;
                length++;
                tokens.advance();
            } while (tokens.kind == Tokens.NUMBER && length <= MOST_SIGNS);
            if (rules.wordOfRow(row) != NONE) {
                return fail(AGAIN, place);
            }
            rules.addWord(name, row, length);
            return true;
        }

        private boolean readLike() {
            tokens.advance();
            if (!atNumber(1, LAST_SIGN)) {
                return false;
            }
            int one = tokens.number;
            tokens.advance();
            if (!atNumber(1, LAST_SIGN)) {
                return false;
            }
            rules.addLike(one, tokens.number);
            tokens.advance();
            return true;
        }

        private boolean readMinutes() {
            tokens.advance();
            if (!atNumber(1, MOST_MINUTES)) {
                return false;
            }
            rules.minutes = tokens.number;
            minutesTold = true;
            tokens.advance();
            return true;
        }

        private boolean readLook() {
            tokens.advance();
            if (!atNumber(0, MOST_LOOK)) {
                return false;
            }
            rules.look = tokens.number;
            lookTold = true;
            tokens.advance();
            return true;
        }

        private boolean readOrder(int order) {
            tokens.advance();
            boolean forAny = tokens.key == Tokens.ANY;
            if (!forAny && !atNumber(0, MOST_POSTS - 1)) {
                return false;
            }
            rules.orderPosts[order] = forAny ? Rules.ANY_POST : tokens.number;
            tokens.advance();
            if (!atName()) {
                return false;
            }
            orderNames[order] = tokens.name;
            orderPlaces[order] = tokens.place;
            tokens.advance();
            rules.orderTwice[order] = tokens.key == Tokens.TWICE;
            if (rules.orderTwice[order]) {
                tokens.advance();
            }
            rules.actCounts[order] = 0;
            rules.orders++;
            return passKey(Tokens.DO);
        }

        private boolean readActs(int order) {
            for (int i = 0; i <= MOST_ACTS; i++) {
                if (!readAct(order)) {
                    return false;
                }
                if (tokens.kind != Tokens.COMMA) {
                    return true;
                }
                tokens.advance();
            }
            return true;
        }

        private boolean readAct(int order) {
            int act = tokens.key;
            if (act != Tokens.PASS && act != Tokens.SEND && act != Tokens.WAIT && act != Tokens.STOP) {
                return fail(MISPLACED, tokens.place);
            }
            if (rules.actCounts[order] >= MOST_ACTS) {
                return fail(BEYOND, tokens.place);
            }
            int slot = order * MOST_ACTS + rules.actCounts[order];
            rules.acts[slot] = act;
            rules.actCounts[order]++;
            tokens.advance();
            if (act == Tokens.WAIT) {
                return readWait(slot);
            }
            return act != Tokens.SEND || readSend(slot);
        }

        private boolean readWait(int slot) {
            if (!atNumber(1, MOST_WAIT)) {
                return false;
            }
            rules.actNumbers[slot] = tokens.number;
            tokens.advance();
            return true;
        }

        private boolean readSend(int slot) {
            if (!atName()) {
                return false;
            }
            actNames[slot] = tokens.name;
            actPlaces[slot] = tokens.place;
            rules.actPosts[slot] = Rules.ALL_NEAR;
            tokens.advance();
            if (tokens.key != Tokens.TO) {
                return true;
            }
            tokens.advance();
            if (!atNumber(0, MOST_POSTS - 1)) {
                return false;
            }
            rules.actPosts[slot] = tokens.number;
            tokens.advance();
            return true;
        }

        // Only now, for a word may be told behind the order that has it.
        private boolean findOrderWords() {
            for (int order = 0; order < rules.orders; order++) {
                int word = rules.wordNamed(orderNames[order]);
                if (word == NONE) {
                    return fail(UNTOLD, orderPlaces[order]);
                }
                rules.orderWords[order] = word;
                if (!findActWords(order)) {
                    return false;
                }
            }
            return true;
        }

        private boolean findActWords(int order) {
            for (int i = 0; i < rules.actCounts[order]; i++) {
                int slot = order * MOST_ACTS + i;
                if (rules.acts[slot] == Tokens.SEND) {
                    int word = rules.wordNamed(actNames[slot]);
                    if (word == NONE) {
                        return fail(UNTOLD, actPlaces[slot]);
                    }
                    rules.actNumbers[slot] = word;
                }
            }
            return true;
        }
    }

    /** The latest MESSAGE, and what was HEARD of it. */
    private static final class Message {
        static final int TALLIES = 5;

        private static final int SEEN = 0;
        private static final int LAST_MINUTE = 1;
        private static final int MISREAD = 2;
        private static final int UNREAD = 3;
        private static final int ORDERS_DONE = 4;

        private static final int MINUTE = 0;
        private static final int SENDER = 1;
        private static final int WORD_SENT = 2;
        private static final int SENDERS = 3;

        final Line line;
        Rules rules;
        boolean given = false;
        boolean spent = false;
        final int[] tallies = new int[TALLIES];
        final int[][] hearings = new int[4][MOST_POSTS * MOST_WORDS];
        final int[] ordersDone = new int[MOST_POSTS];
        final int[] busyTill = new int[MOST_POSTS];
        final int[] deafFrom = new int[MOST_POSTS];
        final int[] seenMinutes = new int[MOST_SEEN];
        final int[] seenFrom = new int[MOST_SEEN];
        final int[] seenBy = new int[MOST_SEEN];
        final int[] seenWords = new int[MOST_SEEN];
        final int[] turns = new int[MOST_SEEN];

        Message(Line line, Rules rules) {
            this.line = line;
            this.rules = rules;
        }

        int run(Rules by, int post, int word) {
            rules = by;
            given = true;
            spent = false;
            Arrays.fill(tallies, 0);
            Arrays.fill(hearings[MINUTE], NONE);
            Arrays.fill(hearings[SENDERS], 0);
            Arrays.fill(ordersDone, 0);
            Arrays.fill(busyTill, 0);
            Arrays.fill(deafFrom, Integer.MAX_VALUE);
            hear(post, word, 0, NONE, word);
            for (int i = 0; i < tallies[SEEN] && !spent; i++) {
                lookAt(turns[i]);
            }
            return spent ? REFUSED : postsThatHeard();
        }

        private void lookAt(int i) {
            int post = seenBy[i];
            int minute = seenMinutes[i];
            tallies[LAST_MINUTE] = minute;
            if (minute >= deafFrom[post]) {
                return;
            }
            int sent = seenWords[i];
            boolean clearly = (line.clear[post] >> seenFrom[i] & 1) == 1;
            int word = clearly ? sent : rules.readDimly(sent);
            if (word == NONE) {
                tallies[UNREAD]++;
                return;
            }
            if (word != sent) {
                tallies[MISREAD]++;
            }
            hear(post, word, minute, seenFrom[i], sent);
        }

        private void hear(int post, int word, int minute, int from, int sent) {
            int slot = post * MOST_WORDS + word;
            if (hearings[MINUTE][slot] == NONE) {
                hearings[MINUTE][slot] = minute;
                hearings[SENDER][slot] = from;
                hearings[WORD_SENT][slot] = sent;
            }
            hearings[SENDERS][slot] |= bit(from);
            int order = nextOrder(post, word);
            if (order != NONE) {
                carryOut(order, post, word, minute, from);
            }
        }

        private static int bit(int post) {
            return post < 0 ? 0 : 1 << post;
        }

        private int nextOrder(int post, int word) {
            boolean fromTwo = Integer.bitCount(hearings[SENDERS][post * MOST_WORDS + word]) >= 2;
            for (int i = 0; i < rules.orders; i++) {
                boolean here = rules.orderPosts[i] == Rules.ANY_POST || rules.orderPosts[i] == post;
                boolean undone = (ordersDone[post] >> i & 1) == 0;
                if (here && undone && rules.orderWords[i] == word && (fromTwo || !rules.orderTwice[i])) {
                    return i;
                }
            }
            return NONE;
        }

        private void carryOut(int order, int post, int word, int minute, int from) {
            ordersDone[post] |= 1 << order;
            tallies[ORDERS_DONE]++;
            int now = Math.max(minute, busyTill[post]);
            for (int i = 0; i < rules.actCounts[order] && !spent; i++) {
                int slot = order * MOST_ACTS + i;
                int others = line.near[post] & ~bit(from);
                switch (rules.acts[slot]) {
                    case Tokens.WAIT:
                        now += rules.actNumbers[slot];
                        break;
                    case Tokens.STOP:
                        deafFrom[post] = Math.min(deafFrom[post], now);
                        break;
                    case Tokens.PASS:
                        now += rules.minutesToSend(word);
                        show(post, others, word, now);
                        break;
                    default:
                        int to = rules.actPosts[slot];
                        now += rules.minutesToSend(rules.actNumbers[slot]);
                        show(post, to == Rules.ALL_NEAR ? others : line.near[post] & bit(to),
                                rules.actNumbers[slot], now);
                        break;
                }
            }
            busyTill[post] = now;
        }

        private void show(int from, int viewers, int word, int minute) {
            for (int p = 0; p < MOST_POSTS && !spent; p++) {
                if ((viewers >> p & 1) == 1) {
                    queue(from, p, word, minute);
                }
            }
        }

        private void queue(int from, int by, int word, int minute) {
            int seen = tallies[SEEN];
            if (seen >= MOST_SEEN) {
                spent = true;
                return;
            }
            seenFrom[seen] = from;
            seenBy[seen] = by;
            seenWords[seen] = word;
            seenMinutes[seen] = minute;
            int turn = seen;
            // To send takes a minute at least, so this never goes before what is looked at now.
            while (turn > 0 && seenMinutes[turns[turn - 1]] > minute) {
                turns[turn] = turns[turn - 1];
                turn--;
            }
            turns[turn] = seen;
            tallies[SEEN]++;
        }

        private int postsThatHeard() {
            int heardBy = 0;
            for (int slot = 0; slot < MOST_POSTS * MOST_WORDS; slot++) {
                if (hearings[MINUTE][slot] != NONE) {
                    heardBy |= bit(slot / MOST_WORDS);
                }
            }
            return Integer.bitCount(heardBy);
        }

        int hearing(int post, int word, int what) {
            int slot = post * MOST_WORDS + word;
            if (what < MINUTE || what > SENDERS || hearings[MINUTE][slot] == NONE) {
                return NONE;
            }
            return what == SENDERS ? Integer.bitCount(hearings[SENDERS][slot]) : hearings[what][slot];
        }
    }

    /** WAYS over the LAND, and rations carried on them. */
    private static final class Carriage {
        private static final int FAR = Integer.MAX_VALUE / 2;
        private static final int STEP = 10;
        private static final int STEP_OF_WOOD = 5;

        final Terrain terrain;
        final Posts posts;
        final int[][] costs = new int[MOST_POSTS][Terrain.CELLS];
        final boolean[] measured = new boolean[MOST_POSTS];
        final int[] statesThen = new int[MOST_POSTS];
        final int[] came = new int[MOST_POSTS];
        final int[] lacks = new int[MOST_POSTS];
        final int[] firstFrom = new int[MOST_POSTS];
        int postsThen = 0;

        Carriage(Terrain terrain, Posts posts) {
            this.terrain = terrain;
            this.posts = posts;
        }

        void forgetWays() {
            for (int p = 0; p < MOST_POSTS; p++) {
                measured[p] = false;
            }
        }

        void measureAll() {
            for (int p = 0; p < posts.size; p++) {
                if (posts.states[p] == FOUND) {
                    measure(p);
                }
            }
        }

        // Each sweep settles one more STEP of every least way at least, and there are no more STEPS than CELLS.
        void measure(int post) {
            if (measured[post]) {
                return;
            }
            int[] row = costs[post];
            Arrays.fill(row, FAR);
            row[posts.cells[post]] = 0;
            boolean moved = true;
            for (int sweep = 0; moved && sweep < Terrain.CELLS; sweep++) {
                moved = lowerAll(row, sweep % 2 == 0);
            }
            measured[post] = true;
        }

        private boolean lowerAll(int[] row, boolean onward) {
            boolean moved = false;
            int width = terrain.width;
            int cells = width * terrain.height;
            for (int i = 0; i < cells && width > 0; i++) {
                int at = onward ? i : cells - 1 - i;
                moved |= lower(row, at % width, at / width);
            }
            return moved;
        }

        private boolean lower(int[] row, int x, int y) {
            int cell = Terrain.cell(x, y);
            int least = row[cell];
            least = Math.min(least, over(row, x - 1, y, cell));
            least = Math.min(least, over(row, x + 1, y, cell));
            least = Math.min(least, over(row, x, y - 1, cell));
            least = Math.min(least, over(row, x, y + 1, cell));
            boolean moved = least < row[cell];
            row[cell] = least;
            return moved;
        }

        private int over(int[] row, int x, int y, int to) {
            if (!terrain.has(x, y)) {
                return FAR;
            }
            int from = Terrain.cell(x, y);
            int rise = terrain.heights[to] - terrain.heights[from];
            int climb = rise > 0 ? 2 * rise : -rise;
            return row[from] + STEP + climb + STEP_OF_WOOD * terrain.woods[to];
        }

        int carryAll(int days) {
            begin(days);
            int cost = 0;
            // Each turn empties a STORE or ends a want.
            for (int turn = 0; turn < 2 * MOST_POSTS; turn++) {
                int pair = nearestPair();
                if (pair == NONE) {
                    break;
                }
                cost += carry(pair / MOST_POSTS, pair % MOST_POSTS);
            }
            return cost;
        }

        private void begin(int days) {
            postsThen = posts.size;
            for (int p = 0; p < posts.size; p++) {
                statesThen[p] = posts.states[p];
                came[p] = 0;
                lacks[p] = posts.states[p] == FOUND ? posts.men[p] * days : 0;
                firstFrom[p] = NONE;
            }
        }

        private int nearestPair() {
            int best = NONE;
            int bestCost = FAR;
            for (int from = 0; from < posts.size; from++) {
                for (int to = 0; to < posts.size && hasStore(from); to++) {
                    int cost = costs[from][posts.cells[to]];
                    if (lacks[to] > 0 && cost < bestCost) {
                        best = from * MOST_POSTS + to;
                        bestCost = cost;
                    }
                }
            }
            return best;
        }

        private boolean hasStore(int p) {
            return posts.states[p] == FOUND && posts.stores[p] > 0;
        }

        private int carry(int from, int to) {
            int rations = Math.min(posts.stores[from], lacks[to]);
            posts.stores[from] -= rations;
            lacks[to] -= rations;
            came[to] += rations;
            if (firstFrom[to] == NONE) {
                firstFrom[to] = from;
            }
            return rations * costs[from][posts.cells[to]];
        }

        int told(int post, int what) {
            if (post < 0 || post >= postsThen || statesThen[post] == EMPTY) {
                return NONE;
            }
            switch (what) {
                case 0:
                    return came[post];
                case 1:
                    return lacks[post];
                case 2:
                    return firstFrom[post];
                default:
                    return NONE;
            }
        }
    }
}
