import java.util.Random;

/** Runs with fixed seeds: ColumnDesk answers as PlainDesk does. */
public final class RandomRunsTest {
    private static final int MOST = 1073741823;
    private static final int RUNS = 2000;
    private static final int CALLS = 512;
    // No promise reaches so far, but no call may ever fail, and only such runs come to 4000 items.
    private static final int LONG_RUNS = 6;
    private static final int LONG_CALLS = 9000;

    private final Check check = new Check("RandomRunsTest");
    private Random random;
    private ColumnDesk x;
    private PlainDesk y;
    private String run;
    // How wild the sizes of a run are: 0 small ones, 1 some huge ones, 2 mostly huge ones.
    private int wild;

    public static void main(String[] args) {
        RandomRunsTest test = new RandomRunsTest();
        for (int seed = 0; seed < RUNS; seed++) {
            test.oneRun(seed, CALLS, 1 + seed % 40);
        }
        for (int seed = 0; seed < LONG_RUNS; seed++) {
            test.oneRun(seed, LONG_CALLS, 6000);
        }
        test.check.end();
    }

    private void oneRun(int seed, int calls, int buildEvery) {
        random = new Random(seed);
        wild = seed % 8 == 0 ? 2 : seed % 8 < 3 ? 1 : 0;
        x = new ColumnDesk();
        y = new PlainDesk();
        tellPage();
        for (int i = 0; i < calls; i++) {
            run = "seed " + seed + ", call " + i + ": ";
            if (random.nextInt(buildEvery) == 0) {
                build();
            } else if (random.nextInt(12) == 0) {
                tell();
            } else if (random.nextInt(4) == 0) {
                ask();
            } else {
                add();
            }
        }
        run = "seed " + seed + ", at last: ";
        build();
        askAll();
    }

    private int size() {
        int kind = random.nextInt(100);
        if (wild == 2 && kind < 60 || wild == 1 && kind < 3) {
            int[] edges = {MOST, -MOST, MOST - 1, MOST / 2, -MOST / 2, MOST + 1, -MOST - 1, random.nextInt()};
            return edges[random.nextInt(edges.length)];
        }
        return kind < 90 ? random.nextInt(15) : random.nextInt(60) - 30;
    }

    private int notNegative() {
        int n = size();
        return random.nextInt(50) == 0 ? -1 : Math.abs(n % (MOST + 1));
    }

    private int order() {
        return random.nextInt(3) > 0 ? 0 : random.nextInt(60) == 0 ? random.nextInt(9) - 4 : random.nextInt(4);
    }

    private void tellPage() {
        int height = wild == 2 ? size() : random.nextInt(80);
        int depth = random.nextInt(10) == 0 ? size() : random.nextInt(6);
        check.due(run + "page(" + height + ", " + depth + ")", bit(x.page(height, depth)), bit(y.page(height, depth)));
    }

    private void tell() {
        if (random.nextInt(3) == 0) {
            tellPage();
            return;
        }
        int width = size();
        int stretch = notNegative();
        int order = order();
        int shrink = notNegative();
        check.due(run + "top", bit(x.top(width, stretch, order, shrink)), bit(y.top(width, stretch, order, shrink)));
    }

    private static int bit(boolean b) {
        return b ? 1 : 0;
    }

    private void add() {
        int kind = random.nextInt(10);
        int a = size();
        int b = kind < 5 ? size() : notNegative();
        int c = kind < 5 ? size() : order();
        int d = kind < 5 ? size() : notNegative();
        if (kind < 3) {
            check.due(run + "box", bit(x.box(a, b, c, d)), bit(y.box(a, b, c, d)));
        } else if (kind < 5) {
            check.due(run + "rule", bit(x.rule(a, b, c)), bit(y.rule(a, b, c)));
        } else if (kind < 7) {
            check.due(run + "glue", bit(x.glue(a, b, c, d)), bit(y.glue(a, b, c, d)));
        } else if (kind < 8) {
            check.due(run + "kern", bit(x.kern(a)), bit(y.kern(a)));
        } else {
            int p = penalty();
            check.due(run + "penalty(" + p + ")", bit(x.penalty(p)), bit(y.penalty(p)));
        }
    }

    private int penalty() {
        int[] some = {0, 50, -50, 9999, 10000, 10001, -9999, -10000, -10001, random.nextInt(), random.nextInt(300) - 150};
        return random.nextInt(3) == 0 ? some[random.nextInt(some.length)] : random.nextInt(100) - 50;
    }

    private void same(String call, Check.Call got, Check.Call want) {
        String wanted = Check.thrownBy(want);
        if (wanted.equals(Check.INDEX)) {
            check.throwsIndex(run + call, got);
        } else {
            check.due(run + call, got.answer(), want.answer());
        }
    }

    private void build() {
        long[] pages = {-1, -1};
        String got = Check.thrownBy(() -> pages[0] = x.build());
        String want = Check.thrownBy(() -> pages[1] = y.build());
        check.due(run + "build() throws " + got + ", due is " + want, bit(got.equals(want)), 1);
        check.due(run + "build()", pages[0], pages[1]);
        askAll();
    }

    private void ask() {
        int k = random.nextInt(11) - 1;
        int i = random.nextInt(12) - 1;
        int what = random.nextInt(7) - 1;
        same("about(" + k + ", " + what + ")", () -> x.about(k, what), () -> y.about(k, what));
        same("item(" + k + ", " + i + ", " + what + ")", () -> x.item(k, i, what), () -> y.item(k, i, what));
        check.due(run + "count(" + what + ")", x.count(what), y.count(what));
        check.due(run + "sum(" + what + ")", x.sum(what), y.sum(what));
    }

    private void askAll() {
        for (int what = -1; what <= 5; what++) {
            check.due(run + "count(" + what + ")", x.count(what), y.count(what));
            check.due(run + "sum(" + what + ")", x.sum(what), y.sum(what));
        }
        for (int k = 0; k < 8 && Check.thrownBy(pageOf(k)).equals(Check.NOTHING); k++) {
            askPage(k);
        }
    }

    private Check.Call pageOf(int k) {
        return () -> y.about(k, 0);
    }

    private void askPage(int k) {
        for (int what = 0; what < 4; what++) {
            int field = what;
            same("about(" + k + ", " + what + ")", () -> x.about(k, field), () -> y.about(k, field));
            for (int i = 0; i <= y.about(k, 3); i++) {
                int place = i;
                same("item(" + k + ", " + i + ", " + what + ")",
                    () -> x.item(k, place, field), () -> y.item(k, place, field));
            }
        }
    }
}
