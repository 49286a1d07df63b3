import java.math.BigInteger;
import java.util.ArrayList;
import java.util.List;

/**
 * The document's words a second time, on lists and without regard to speed: all sums are made
 * anew from the items whenever they are asked for. The random runs compare ColumnDesk with it.
 */
final class PlainDesk {
    record Thing(int kind, int width, int height, int depth, int shift, int stretch, int order, int shrink) {
        boolean solid() {
            return kind == 2 || kind == 4;
        }

        Thing withWidth(int w) {
            return new Thing(kind, w, height, depth, shift, stretch, order, shrink);
        }
    }

    record Made(int height, int depth, int width, List<Thing> things) {
    }

    private int height;
    private int depth;
    private Thing top = new Thing(5, 0, 0, 0, 0, 0, 0, 0);
    private List<Thing> onPage = new ArrayList<>();
    private List<Thing> toCome = new ArrayList<>();
    private final List<Made> kept = new ArrayList<>();
    private final List<Long> costs = new ArrayList<>();
    private int best = -1;
    private int goal;
    private int limit;
    private int pages;

    private static boolean size(long n) {
        return Math.abs(n) <= 1073741823L;
    }

    boolean page(int h, int d) {
        if (!size(h) || !size(d) || d < 0) {
            return false;
        }
        height = h;
        depth = d;
        return true;
    }

    private static boolean glueIs(int w, int stretch, int order, int shrink) {
        return size(w) && size(stretch) && size(shrink) && stretch >= 0 && shrink >= 0 && order >= 0 && order <= 3;
    }

    boolean top(int w, int stretch, int order, int shrink) {
        if (!glueIs(w, stretch, order, shrink)) {
            return false;
        }
        top = new Thing(5, w, 0, 0, 0, stretch, order, shrink);
        return true;
    }

    private boolean add(boolean right, Thing thing) {
        int all = onPage.size() + toCome.size();
        for (Made m : kept) {
            all += m.things.size() + 1;
        }
        if (!right || all >= 4000) {
            return false;
        }
        toCome.add(thing);
        return true;
    }

    boolean box(int w, int h, int d, int shift) {
        return add(size(w) && size(h) && size(d) && size(shift), new Thing(2, w, h, d, shift, 0, 0, 0));
    }

    boolean rule(int w, int h, int d) {
        return add(size(w) && size(h) && size(d), new Thing(4, w, h, d, 0, 0, 0, 0));
    }

    boolean glue(int w, int stretch, int order, int shrink) {
        return add(glueIs(w, stretch, order, shrink), new Thing(5, w, 0, 0, 0, stretch, order, shrink));
    }

    boolean kern(int w) {
        return add(size(w), new Thing(6, w, 0, 0, 0, 0, 0, 0));
    }

    boolean penalty(int p) {
        return add(true, new Thing(7, p, 0, 0, 0, 0, 0, 0));
    }

    private long depthOf(List<Thing> things) {
        Thing last = things.isEmpty() ? null : things.get(things.size() - 1);
        return last == null || !last.solid() ? 0 : Math.min(last.depth, limit);
    }

    private long totalOf(List<Thing> things) {
        long all = 0;
        for (Thing t : things) {
            if (t.solid()) {
                all += (long) t.height + t.depth;
            } else if (t.kind != 7) {
                all += t.width;
            }
        }
        return all - depthOf(things);
    }

    private static long stretchOf(List<Thing> things, int order) {
        long all = 0;
        for (Thing t : things) {
            all += t.order == order ? t.stretch : 0;
        }
        return all;
    }

    private static long shrinkOf(List<Thing> things) {
        long all = 0;
        for (Thing t : things) {
            all += t.shrink;
        }
        return all;
    }

    private static long badness(long t, long s) {
        if (t == 0 || s == 0) {
            return t == 0 ? 0 : 10000;
        }
        BigInteger r = BigInteger.valueOf(297).multiply(BigInteger.valueOf(t)).divide(BigInteger.valueOf(s));
        if (r.compareTo(BigInteger.valueOf(1290)) > 0) {
            return 10000;
        }
        return r.pow(3).add(BigInteger.valueOf(131072)).divide(BigInteger.valueOf(262144)).longValueExact();
    }

    private static BigInteger near(BigInteger a, BigInteger b) {
        if (a.signum() < 0) {
            return near(a.negate(), b).negate();
        }
        return a.shiftLeft(1).add(b).divide(b.shiftLeft(1));
    }

    /** Null stands for 'there is none'. */
    private Long badnessNow() {
        long total = totalOf(onPage);
        long high = stretchOf(onPage, 1) + stretchOf(onPage, 2) + stretchOf(onPage, 3);
        if (total == goal || total < goal && high > 0) {
            return 0L;
        }
        if (total < goal) {
            return badness(goal - total, stretchOf(onPage, 0));
        }
        return total - goal <= shrinkOf(onPage) ? badness(total - goal, shrinkOf(onPage)) : null;
    }

    private boolean breakIsNext() {
        Thing t = toCome.get(0);
        return t.kind == 5 && onPage.get(onPage.size() - 1).solid()
            || t.kind == 6 && toCome.size() > 1 && toCome.get(1).kind == 5
            || t.kind == 7 && t.width < 10000;
    }

    /** Weighs the page at the next item: true if it ends there. */
    private boolean ends() {
        int p = toCome.get(0).kind == 7 ? toCome.get(0).width : 0;
        Long b = badnessNow();
        if (b != null) {
            long cost = p <= -10000 ? p : b < 10000 ? b + p : 100000;
            boolean cheapest = true;
            for (long c : costs) {
                cheapest &= cost <= c;
            }
            best = cheapest ? onPage.size() : best;
            costs.add(cost);
        }
        return b == null || p <= -10000;
    }

    int build() {
        int made = 0;
        while (!toCome.isEmpty() && !(toCome.size() == 1 && toCome.get(0).kind == 6)) {
            Thing t = toCome.get(0);
            if (onPage.isEmpty() && !t.solid()) {
                toCome.remove(0);
                continue;
            }
            if (onPage.isEmpty()) {
                goal = height;
                limit = depth;
                onPage.add(top.withWidth(Math.max(0, top.width - t.height)));
            } else if (breakIsNext() && ends()) {
                makePage();
                made++;
                continue;
            }
            onPage.add(toCome.remove(0));
        }
        return made;
    }

    private void makePage() {
        int cut = best >= 0 ? best : onPage.size();
        List<Thing> things = new ArrayList<>(onPage.subList(0, cut));
        List<Thing> rest = new ArrayList<>(onPage.subList(cut, onPage.size()));
        rest.addAll(toCome);
        toCome = rest;
        onPage = new ArrayList<>();
        best = -1;
        costs.clear();
        long width = 0;
        for (Thing t : things) {
            width = t.solid() ? Math.max(width, (long) t.width + t.shift) : width;
        }
        boolean right = size(totalOf(things)) && size(shrinkOf(things)) && size(width);
        for (int order = 0; order < 4; order++) {
            right &= size(stretchOf(things, order));
        }
        if (!right) {
            toCome.clear();
            kept.clear();
            throw new UnsupportedOperationException();
        }
        pages++;
        kept.add(0, new Made(goal, (int) depthOf(things), (int) width, set(things)));
        if (kept.size() > 8) {
            kept.remove(8);
        }
    }

    private List<Thing> set(List<Thing> things) {
        long excess = goal - totalOf(things);
        int order = 3;
        while (order >= 0 && stretchOf(things, order) == 0) {
            order--;
        }
        long s = excess > 0 ? order < 0 ? 0 : stretchOf(things, order) : shrinkOf(things);
        if (s == 0 || excess == 0) {
            return things;
        }
        BigInteger e = BigInteger.valueOf(Math.max(excess, excess > 0 ? 0 : -s));
        BigInteger all = BigInteger.valueOf(s);
        BigInteger a = BigInteger.ZERO;
        List<Thing> done = new ArrayList<>();
        for (Thing t : things) {
            boolean takesPart = t.kind == 5 && (excess < 0 || t.order == order);
            BigInteger c = takesPart ? a.add(BigInteger.valueOf(excess > 0 ? t.stretch : t.shrink)) : a;
            long w = t.width + near(e.multiply(c), all).subtract(near(e.multiply(a), all)).longValueExact();
            done.add(takesPart ? t.withWidth((int) Math.max(-2147483647L, Math.min(2147483647L, w))) : t);
            a = c;
        }
        return done;
    }

    int about(int k, int what) {
        if (k < 0 || k >= kept.size() || what < 0 || what > 3) {
            throw new IndexOutOfBoundsException();
        }
        Made m = kept.get(k);
        return what == 0 ? m.height : what == 1 ? m.depth : what == 2 ? m.width : m.things.size();
    }

    int item(int k, int i, int what) {
        if (k < 0 || k >= kept.size() || i < 0 || i >= kept.get(k).things.size() || what < 0 || what > 3) {
            throw new IndexOutOfBoundsException();
        }
        Thing t = kept.get(k).things.get(i);
        return what == 0 ? t.kind : what == 1 ? t.width : what == 2 ? t.height : t.depth;
    }

    int count(int what) {
        switch (what) {
            case 0: return pages;
            case 1: return toCome.size();
            case 2: return onPage.size();
            case 3: return best >= 0 ? 1 : 0;
            default: return -1;
        }
    }

    long sum(int what) {
        if (onPage.isEmpty()) {
            return 0;
        }
        switch (what) {
            case 0: return totalOf(onPage);
            case 1: return depthOf(onPage);
            case 2: return shrinkOf(onPage);
            case 3: return stretchOf(onPage, 0);
            case 4: return costs.stream().mapToLong(c -> c).min().orElse(0);
            default: return 0;
        }
    }
}
