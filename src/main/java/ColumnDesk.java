import java.util.Arrays;

/** Pages made of a column of boxes, rules, glue, kerns and penalties. */
public final class ColumnDesk {
    public static final int NONE = -1;

    private static final int SIZE_MOST = 1073741823;
    private static final int SET_WIDTH_MOST = 2147483647;
    private static final int ITEMS_MOST = 4000;
    private static final int PAGES_KEPT = 8;
    private static final int ORDERS = 4;

    // The kinds of items bear the numbers that item() answers.
    private static final int BOX = 2;
    private static final int RULE = 4;
    private static final int GLUE = 5;
    private static final int KERN = 6;
    private static final int PENALTY = 7;

    // The fields of an item: the first four bear the numbers by which item() is asked for them.
    private static final int KIND = 0;
    private static final int WIDTH = 1;
    private static final int HEIGHT = 2;
    private static final int DEPTH = 3;
    private static final int SHIFT = 4;
    private static final int STRETCH = 5;
    private static final int ORDER = 6;
    private static final int SHRINK = 7;
    private static final int FIELDS = 8;

    private static final int NO_BREAK = 10000;
    private static final int FORCED_BREAK = -10000;
    private static final long WORST = 10000;
    private static final long WORST_COST = 100000;

    // The one item more is the top glue, or the slot that is kept free for it.
    private static final int ROW_MOST = ITEMS_MOST + 1;
    private static final int COLUMN_ROOM = 64;
    private static final int PAGE_ROOM = 8;

    private int toldHeight;
    private int toldDepth;
    private int topWidth;
    private int topStretch;
    private int topOrder;
    private int topShrink;

    // The page and, right behind it, what is to come, so that a page which ends gives items
    // back by a move of 'next' alone. Ahead of 'next' there is always a slot for the top glue.
    private final Items column = new Items(COLUMN_ROOM);
    private final Page current = new Page();
    private final Shelf shelf = new Shelf();
    private final Sums madeSums = new Sums();
    private int next;

    public ColumnDesk() {
        column.append();
        next = 1;
    }

    public boolean page(int height, int depth) {
        if (!isSize(height) || !isSize(depth) || depth < 0) {
            return false;
        }
        toldHeight = height;
        toldDepth = depth;
        return true;
    }

    public boolean top(int width, int stretch, int order, int shrink) {
        if (!isGlue(width, stretch, order, shrink)) {
            return false;
        }
        topWidth = width;
        topStretch = stretch;
        topOrder = order;
        topShrink = shrink;
        return true;
    }

    public boolean box(int width, int height, int depth, int shift) {
        return addSolid(BOX, width, height, depth, shift);
    }

    public boolean rule(int width, int height, int depth) {
        return addSolid(RULE, width, height, depth, 0);
    }

    public boolean glue(int width, int stretch, int order, int shrink) {
        if (!isGlue(width, stretch, order, shrink) || isFull()) {
            return false;
        }
        column.makeGlue(column.append(), width, stretch, order, shrink);
        return true;
    }

    public boolean kern(int width) {
        if (!isSize(width) || isFull()) {
            return false;
        }
        column.makePlain(column.append(), KERN, width);
        return true;
    }

    public boolean penalty(int p) {
        if (isFull()) {
            return false;
        }
        column.makePlain(column.append(), PENALTY, p);
        return true;
    }

    public int build() throws UnsupportedOperationException {
        int pages = 0;
        // Every page made takes a box or rule away, so the items outnumber the pages.
        int most = column.size();
        for (int n = 0; n < most && fillPage(); n++) {
            if (!endPage()) {
                loseAll();
                throw new UnsupportedOperationException("a page can't be made");
            }
            pages++;
        }
        dropUsed();
        return pages;
    }

    public int about(int k, int what) throws IndexOutOfBoundsException {
        MadePage made = shelf.madePage(k);
        if (made == null) {
            throw new IndexOutOfBoundsException("no such page");
        }
        switch (what) {
            case 0: return made.height;
            case 1: return made.depth;
            case 2: return made.width;
            case 3: return made.items.size();
            default: throw new IndexOutOfBoundsException("no such what");
        }
    }

    public int item(int k, int i, int what) throws IndexOutOfBoundsException {
        MadePage made = shelf.madePage(k);
        if (made == null) {
            throw new IndexOutOfBoundsException("no such page");
        }
        if (i < 0 || i >= made.items.size()) {
            throw new IndexOutOfBoundsException("no such item");
        }
        if (what < KIND || what > DEPTH) {
            throw new IndexOutOfBoundsException("no such what");
        }
        return made.items.at(i, what);
    }

    public int count(int what) {
        switch (what) {
            case 0: return shelf.everMade;
            case 1: return toCome();
            case 2: return onPage();
            case 3: return current.hasBest() ? 1 : 0;
            default: return NONE;
        }
    }

    public long sum(int what) {
        if (!current.begun) {
            return 0;
        }
        switch (what) {
            case 0: return current.sums.total();
            case 1: return current.sums.depth;
            case 2: return current.sums.shrink;
            case 3: return current.sums.stretchOf(0);
            case 4: return current.hasBest() ? current.leastCost : 0;
            default: return 0;
        }
    }

    private boolean addSolid(int kind, int width, int height, int depth, int shift) {
        boolean sizes = isSize(width) && isSize(height) && isSize(depth) && isSize(shift);
        if (!sizes || isFull()) {
            return false;
        }
        column.makeSolid(column.append(), kind, width, height, depth, shift);
        return true;
    }

    private boolean isFull() {
        return onPage() + toCome() + shelf.held() >= ITEMS_MOST;
    }

    private int toCome() {
        return column.size() - next;
    }

    private int onPage() {
        return current.begun ? next - current.first : 0;
    }

    /** Lets items come until the page ends (true) or none can come any more (false). */
    private boolean fillPage() {
        int most = toCome();
        for (int i = 0; i < most; i++) {
            int kind = column.at(next, KIND);
            if (kind == KERN && toCome() == 1) {
                return false;
            }
            if (!current.begun && !isSolid(kind)) {
                next++;
                continue;
            }
            if (!current.begun) {
                beginPage();
            } else if (isBreak(kind) && endsAtBreak(kind)) {
                return true;
            }
            current.sums.take(column, next);
            next++;
        }
        return false;
    }

    private void beginPage() {
        int first = next - 1;
        int width = Math.max(0, topWidth - column.at(next, HEIGHT));
        column.makeGlue(first, width, topStretch, topOrder, topShrink);
        current.begin(first, toldHeight, toldDepth);
        current.sums.take(column, first);
    }

    private boolean isBreak(int kind) {
        switch (kind) {
            case GLUE: return isSolid(column.at(next - 1, KIND));
            case KERN: return toCome() > 1 && column.at(next + 1, KIND) == GLUE;
            case PENALTY: return column.at(next, WIDTH) < NO_BREAK;
            default: return false;
        }
    }

    private boolean endsAtBreak(int kind) {
        int p = kind == PENALTY ? column.at(next, WIDTH) : 0;
        return current.weigh(p, onPage());
    }

    /** Makes the page that has ended and gives the rest back; false if it can't be made. */
    private boolean endPage() {
        int first = current.first;
        int end = current.hasBest() ? first + current.best : next;
        madeSums.clear(current.sums.limit);
        for (int i = first; i < end; i++) {
            madeSums.take(column, i);
        }
        if (!madeSums.areSizes()) {
            return false;
        }
        shelf.put(column, first, end, current.goal, madeSums);
        next = end;
        current.forget();
        return true;
    }

    private void loseAll() {
        shelf.clear();
        current.forget();
        column.clear();
        column.append();
        next = 1;
    }

    /** Frees the slots of items that are gone or stand in pages made. */
    private void dropUsed() {
        int used = current.begun ? current.first : next - 1;
        column.dropFirst(used);
        current.first = 0;
        next -= used;
    }

    private static boolean isSize(long n) {
        return n >= -SIZE_MOST && n <= SIZE_MOST;
    }

    private static boolean isGlue(int width, int stretch, int order, int shrink) {
        return isSize(width) && isSize(stretch) && stretch >= 0
            && order >= 0 && order < ORDERS && isSize(shrink) && shrink >= 0;
    }

    private static boolean isSolid(int kind) {
        return kind == BOX || kind == RULE;
    }

    private static long badness(long t, long s) {
        if (t == 0) {
            return 0;
        }
        if (s <= 0) {
            return WORST;
        }
        long r = 297 * t / s;
        return r > 1290 ? WORST : (r * r * r + 131072) / 262144;
    }

    /** a / b to the nearest whole number, the same on both sides of 0. */
    private static long near(long a, long b) {
        if (b <= 0) {
            return 0;
        }
        long size = (2 * Math.abs(a) + b) / (2 * b);
        return a < 0 ? -size : size;
    }

    /** A row of items, each of FIELDS numbers. A penalty's number stands as its width. */
    private static final class Items {
        private int[] cells;
        private int size;

        Items(int room) {
            cells = new int[room > 0 ? room * FIELDS : FIELDS];
        }

        int size() {
            return size;
        }

        int at(int i, int field) {
            int cell = i * FIELDS + field;
            return i >= 0 && i < size && cell >= 0 && cell < cells.length ? cells[cell] : 0;
        }

        void put(int i, int field, int value) {
            int cell = i * FIELDS + field;
            if (i >= 0 && i < size && cell >= 0 && cell < cells.length) {
                cells[cell] = value;
            }
        }

        /** Adds an item that is still to be made and answers its place. */
        int append() {
            makeRoom(size + 1);
            if ((size + 1) * FIELDS <= cells.length) {
                size++;
            }
            return size - 1;
        }

        void makePlain(int i, int kind, int width) {
            for (int field = 0; field < FIELDS; field++) {
                put(i, field, 0);
            }
            put(i, KIND, kind);
            put(i, WIDTH, width);
        }

        void makeSolid(int i, int kind, int width, int height, int depth, int shift) {
            makePlain(i, kind, width);
            put(i, HEIGHT, height);
            put(i, DEPTH, depth);
            put(i, SHIFT, shift);
        }

        void makeGlue(int i, int width, int stretch, int order, int shrink) {
            makePlain(i, GLUE, width);
            put(i, STRETCH, stretch);
            put(i, ORDER, order);
            put(i, SHRINK, shrink);
        }

        /** Takes the items of another row from first up to end as its own. */
        void copyFrom(Items from, int first, int end) {
            size = 0;
            if (first < 0 || end > from.size || first > end) {
                return;
            }
            int most = end - first;
            makeRoom(most);
            if (most * FIELDS <= cells.length) {
                System.arraycopy(from.cells, first * FIELDS, cells, 0, most * FIELDS);
                size = most;
            }
        }

        void dropFirst(int n) {
            if (n <= 0 || n > size) {
                return;
            }
            System.arraycopy(cells, n * FIELDS, cells, 0, (size - n) * FIELDS);
            size -= n;
        }

        void clear() {
            size = 0;
        }

        /** Doubles the room, so that a long column is seldom copied, until the items fit. */
        private void makeRoom(int items) {
            if (items * FIELDS <= cells.length || items > ROW_MOST) {
                return;
            }
            int wanted = Math.min(ROW_MOST, Math.max(items, 2 * (cells.length / FIELDS)));
            cells = Arrays.copyOf(cells, wanted * FIELDS);
        }
    }

    /** What items come to together, in the order in which they are taken. */
    private static final class Sums {
        private final long[] stretch = new long[ORDERS];
        private long shrink;
        private long all;
        private long depth;
        private long width;
        private int limit;

        void clear(int depthLimit) {
            Arrays.fill(stretch, 0);
            shrink = 0;
            all = 0;
            depth = 0;
            width = 0;
            limit = depthLimit;
        }

        void take(Items items, int i) {
            depth = 0;
            switch (items.at(i, KIND)) {
                case BOX:
                case RULE:
                    takeSolid(items, i);
                    break;
                case GLUE:
                    takeGlue(items, i);
                    break;
                case KERN:
                    all += items.at(i, WIDTH);
                    break;
                default:
                    break;
            }
        }

        private void takeSolid(Items items, int i) {
            long below = items.at(i, DEPTH);
            all += items.at(i, HEIGHT) + below;
            depth = Math.min(below, limit);
            width = Math.max(width, (long) items.at(i, WIDTH) + items.at(i, SHIFT));
        }

        private void takeGlue(Items items, int i) {
            all += items.at(i, WIDTH);
            shrink += items.at(i, SHRINK);
            int order = items.at(i, ORDER);
            if (order >= 0 && order < ORDERS) {
                stretch[order] += items.at(i, STRETCH);
            }
        }

        long total() {
            return all - depth;
        }

        long stretchOf(int order) {
            return order >= 0 && order < ORDERS ? stretch[order] : 0;
        }

        /** The highest order of which there is stretch, or NONE. */
        int highestOrder() {
            for (int order = ORDERS - 1; order >= 0; order--) {
                if (stretch[order] > 0) {
                    return order;
                }
            }
            return NONE;
        }

        boolean areSizes() {
            for (int order = 0; order < ORDERS; order++) {
                if (!isSize(stretch[order])) {
                    return false;
                }
            }
            return isSize(total()) && isSize(shrink) && isSize(width);
        }
    }

    /** The page that items come to: where it stands in the column and how it was weighed. */
    private static final class Page {
        private final Sums sums = new Sums();
        private boolean begun;
        private int first;
        private int goal;
        // How many items of the page stand ahead of its best break.
        private int best = NONE;
        private long leastCost;

        void begin(int place, int height, int depthLimit) {
            begun = true;
            first = place;
            goal = height;
            sums.clear(depthLimit);
        }

        void forget() {
            begun = false;
            first = 0;
            best = NONE;
            leastCost = 0;
        }

        boolean hasBest() {
            return best != NONE;
        }

        /** Weighs a break with this penalty behind so many items: true if the page ends. */
        boolean weigh(int p, int ahead) {
            long b = badnessNow();
            boolean fits = b != NONE;
            long cost = costOf(b, p);
            if (fits && (!hasBest() || cost <= leastCost)) {
                best = ahead;
                leastCost = cost;
            }
            return !fits || p <= FORCED_BREAK;
        }

        /** NONE if the page is too high for its shrink. */
        private long badnessNow() {
            long missing = goal - sums.total();
            if (missing < 0) {
                return -missing <= sums.shrink ? badness(-missing, sums.shrink) : NONE;
            }
            return sums.highestOrder() > 0 ? 0 : badness(missing, sums.stretchOf(0));
        }

        private static long costOf(long b, int p) {
            if (p <= FORCED_BREAK) {
                return p;
            }
            return b < WORST ? b + p : WORST_COST;
        }
    }

    /** A page made, with its glue set. */
    private static final class MadePage {
        private final Items items = new Items(PAGE_ROOM);
        private int height;
        private int depth;
        private int width;

        void make(Items column, int first, int end, int goal, Sums sums) {
            items.copyFrom(column, first, end);
            height = goal;
            depth = (int) sums.depth;
            width = (int) sums.width;
            setGlue(goal - sums.total(), sums);
        }

        private void setGlue(long excess, Sums sums) {
            int order = sums.highestOrder();
            if (excess > 0 && order != NONE) {
                spread(excess, sums.stretchOf(order), order);
            } else if (excess < 0) {
                spread(Math.max(excess, -sums.shrink), sums.shrink, NONE);
            }
        }

        /** Shares the excess out by the stretch of an order, by the shrink if the order is NONE. */
        private void spread(long excess, long shares, int order) {
            long before = 0;
            for (int i = 0; i < items.size(); i++) {
                if (items.at(i, KIND) == GLUE) {
                    long upTo = before + shareOf(i, order);
                    long more = near(excess * upTo, shares) - near(excess * before, shares);
                    items.put(i, WIDTH, within(items.at(i, WIDTH) + more));
                    before = upTo;
                }
            }
        }

        private int shareOf(int i, int order) {
            if (order == NONE) {
                return items.at(i, SHRINK);
            }
            return items.at(i, ORDER) == order ? items.at(i, STRETCH) : 0;
        }

        private static int within(long setWidth) {
            return (int) Math.max(-SET_WIDTH_MOST, Math.min(SET_WIDTH_MOST, setWidth));
        }
    }

    /** The last pages made: the rows of the oldest serve again for the newest. */
    private static final class Shelf {
        private final MadePage[] pages = new MadePage[PAGES_KEPT];
        private int kept;
        private int latest;
        private int everMade;

        void put(Items column, int first, int end, int goal, Sums sums) {
            latest = Math.floorMod(latest + 1, PAGES_KEPT);
            kept = Math.min(PAGES_KEPT, kept + 1);
            everMade++;
            MadePage made = pages[latest];
            if (made == null) {
                made = new MadePage();
                pages[latest] = made;
            }
            made.make(column, first, end, goal, sums);
        }

        /** The k-th of the pages kept, 0 the latest; null if there is none. */
        MadePage madePage(int k) {
            return k >= 0 && k < kept ? pages[Math.floorMod(latest - k, PAGES_KEPT)] : null;
        }

        /** The items of the pages kept, and one more for each page. */
        int held() {
            int all = kept;
            for (int k = 0; k < kept; k++) {
                MadePage made = madePage(k);
                all += made == null ? 0 : made.items.size();
            }
            return all;
        }

        void clear() {
            kept = 0;
        }
    }
}
