/** Promise 9, and the terms of the page: what comes, what is gone, where the page ends. */
public final class BuildTest {
    private static final int MOST = 1073741823;
    private static final Check CHECK = new Check("BuildTest");

    public static void main(String[] args) {
        goneBeforeTheFirstBox();
        lastKernWaits();
        glueBreaks();
        kernBreaks();
        penaltyBreaks();
        badnessAndCost();
        stretchOfHigherOrders();
        bestBreakIsTheLastOfTheCheapest();
        endAtAnEarlierBest();
        forcedEndWithoutB();
        restBeginsTheNextPage();
        depthAndLimit();
        edgesOfWhatCanBeMade();
        allIsGone();
        slotsThatServeAgain();
        CHECK.end();
    }

    private static void goneBeforeTheFirstBox() {
        ColumnDesk x = new ColumnDesk();
        x.glue(5, 5, 1, 5);
        x.kern(3);
        x.penalty(-10000);
        x.penalty(7);
        CHECK.due("nothing made of glue, kern and penalties", x.build(), 0);
        CHECK.due("they are gone", x.count(1), 0);
        CHECK.due("not on the page", x.count(2), 0);
        x.rule(1, 2, 0);
        x.build();
        CHECK.due("a rule begins the page", x.count(2), 2);
        CHECK.due("nothing of them in the total", x.sum(0), 2);
        CHECK.due("nothing of them in the shrink", x.sum(2), 0);
    }

    private static void lastKernWaits() {
        ColumnDesk x = new ColumnDesk();
        x.kern(1);
        x.kern(2);
        x.build();
        CHECK.due("the last kern waits without a box", x.count(1), 1);
        x.box(0, 10, 0, 0);
        x.kern(4);
        x.build();
        CHECK.due("the last kern waits behind a box", x.count(1), 1);
        CHECK.due("top glue and box", x.count(2), 2);
        x.build();
        CHECK.due("it waits on", x.count(1), 1);
        x.kern(5);
        x.build();
        CHECK.due("a kern behind it: only that one waits", x.count(1), 1);
        CHECK.due("the first one came", x.sum(0), 14);
        CHECK.due("no break at a kern ahead of a kern", x.count(3), 0);
    }

    private static void glueBreaks() {
        ColumnDesk x = new ColumnDesk();
        x.page(100, 0);
        x.box(0, 10, 0, 0);
        x.penalty(10000);
        x.glue(0, 1, 0, 0);
        x.glue(0, 1, 0, 0);
        x.kern(0);
        x.kern(0);
        x.penalty(10000);
        x.glue(0, 1, 0, 0);
        x.build();
        CHECK.due("no break: behind a penalty, glue, a kern", x.count(3), 0);
        x.rule(0, 10, 0);
        x.glue(0, 0, 0, 0);
        x.build();
        CHECK.due("a break: glue behind a rule", x.count(3), 1);
        ColumnDesk y = new ColumnDesk();
        y.page(100, 0);
        y.box(0, 10, 0, 0);
        y.glue(0, 0, 0, 0);
        y.build();
        CHECK.due("a break: glue behind a box", y.count(3), 1);
        ColumnDesk z = new ColumnDesk();
        z.page(10, 0);
        z.box(0, 10, 0, 0);
        z.glue(7, 0, 0, 0);
        z.build();
        CHECK.due("weighed without the glue", z.sum(4), 0);
    }

    private static void kernBreaks() {
        ColumnDesk x = new ColumnDesk();
        x.page(100, 0);
        x.box(0, 10, 0, 0);
        x.kern(5);
        x.box(0, 10, 0, 0);
        x.kern(5);
        x.penalty(10000);
        x.build();
        CHECK.due("no break: a kern ahead of a box, of a penalty", x.count(3), 0);
        x.kern(5);
        x.glue(3, 0, 0, 0);
        x.build();
        CHECK.due("a break: a kern ahead of glue", x.count(3), 1);
        CHECK.due("both came", x.sum(0), 38);
        ColumnDesk y = new ColumnDesk();
        y.page(10, 0);
        y.box(0, 10, 0, 0);
        y.kern(5);
        y.glue(3, 0, 0, 0);
        CHECK.due("weighed without the kern: no page ends", y.build(), 0);
        CHECK.due("weighed without the kern: cost", y.sum(4), 0);
    }

    private static void penaltyBreaks() {
        CHECK.due("no break: 10000", breaksAtPenalty(10000), 0);
        CHECK.due("no break: 2147483647", breaksAtPenalty(Integer.MAX_VALUE), 0);
        CHECK.due("a break: 9999", breaksAtPenalty(9999), 1);
        CHECK.due("a break: -9999", breaksAtPenalty(-9999), 1);
    }

    private static int breaksAtPenalty(int p) {
        ColumnDesk x = new ColumnDesk();
        x.page(100, 0);
        x.box(0, 10, 0, 0);
        x.penalty(p);
        x.build();
        return x.count(3);
    }

    /** The least cost of a page of one box behind glue that stretches and shrinks. */
    private static long cost(int goal, int height, int stretch, int shrink, int p) {
        ColumnDesk x = new ColumnDesk();
        x.page(goal, 0);
        x.top(0, stretch, 0, shrink);
        x.box(0, height, 0, 0);
        x.penalty(p);
        x.build();
        return x.count(3) == 0 ? Long.MIN_VALUE : x.sum(4);
    }

    private static void badnessAndCost() {
        CHECK.due("no excess", cost(50, 50, 0, 0, 7), 7);
        CHECK.due("no stretch", cost(50, 49, 0, 9, 7), 100000);
        CHECK.due("as much as the stretch", cost(50, 40, 10, 0, 0), 100);
        CHECK.due("as much as a stretch of 1", cost(50, 49, 1, 0, 0), 100);
        CHECK.due("half the stretch", cost(50, 45, 10, 0, 0), 12);
        CHECK.due("r is 1290", cost(1290, 0, 297, 0, 0), 8189);
        CHECK.due("r is 1291", cost(1291, 0, 297, 0, 0), 100000);
        CHECK.due("r is 1290, p 9999", cost(1290, 0, 297, 0, 9999), 18188);
        CHECK.due("r is 1290, p -9999", cost(1290, 0, 297, 0, -9999), -1810);
        CHECK.due("badness 10000, p -9999", cost(1291, 0, 297, 0, -9999), 100000);
        CHECK.due("as much as the shrink", cost(50, 60, 0, 10, 3), 103);
        CHECK.due("half the shrink", cost(50, 55, 0, 10, -3), 9);
        CHECK.due("more than the shrink", cost(50, 61, 0, 10, 0), Long.MIN_VALUE);
        CHECK.due("shrink is no stretch", cost(50, 51, 9, 0, 0), Long.MIN_VALUE);
        CHECK.due("a goal below 0", cost(-5, 0, 0, 10, 0), 12);
        CHECK.due("a height below 0 is what the top glue makes up for", cost(5, -99, 10, 0, 0), 12);
        CHECK.due("29.61", cost(100, 0, 150, 0, 0), 30);
    }

    private static void stretchOfHigherOrders() {
        for (int order = 0; order < 4; order++) {
            ColumnDesk x = new ColumnDesk();
            x.page(50, 0);
            x.top(0, 1, order, 0);
            x.box(0, 10, 0, 0);
            x.penalty(5);
            x.build();
            CHECK.due("stretch of order " + order, x.sum(4), order == 0 ? 100000 : 5);
        }
        ColumnDesk x = new ColumnDesk();
        x.page(50, 0);
        x.top(0, 0, 2, 0);
        x.box(0, 10, 0, 0);
        x.penalty(5);
        x.build();
        CHECK.due("an order without stretch", x.sum(4), 100000);
        ColumnDesk y = new ColumnDesk();
        y.page(50, 0);
        y.top(0, 9, 2, 10);
        y.box(0, 55, 0, 0);
        y.penalty(5);
        y.build();
        CHECK.due("it does not help a page that is too high", y.sum(4), 17);
    }

    private static void bestBreakIsTheLastOfTheCheapest() {
        ColumnDesk x = new ColumnDesk();
        x.page(100, 0);
        x.top(0, 1, 1, 0);
        x.box(1, 10, 0, 0);
        x.penalty(5);
        x.box(2, 10, 0, 0);
        x.penalty(5);
        x.box(3, 10, 0, 0);
        x.penalty(6);
        x.box(4, 200, 0, 0);
        x.penalty(0);
        CHECK.due("the high box ends three pages", x.build(), 3);
        CHECK.items("ahead of the second penalty", x, 2, 1, 80, 1, 5, 2);
        CHECK.items("ahead of the third penalty", x, 1, 1, 90, 3);
        CHECK.items("the high box alone", x, 0, 1, 0, 4);
        CHECK.due("nothing is left", x.count(1) + x.count(2) + x.count(3), 0);
    }

    private static void endAtAnEarlierBest() {
        ColumnDesk x = new ColumnDesk();
        x.page(20, 0);
        x.box(1, 10, 0, 0);
        x.glue(2, 0, 0, 0);
        x.box(2, 20, 0, 0);
        x.penalty(50);
        x.box(3, 4, 0, 0);
        CHECK.due("one page", x.build(), 1);
        CHECK.items("ahead of the glue", x, 0, 0, 5, 2);
        CHECK.due("the glue is gone, the rest came", x.count(2), 4);
        CHECK.due("the least cost of the second page", x.sum(4), 50);
        CHECK.due("its total", x.sum(0), 24);
    }

    private static void forcedEndWithoutB() {
        ColumnDesk x = new ColumnDesk();
        x.page(20, 0);
        x.box(1, 10, 0, 0);
        x.penalty(0);
        x.box(2, 15, 0, 0);
        x.penalty(-10001);
        CHECK.due("the forced break ends two pages", x.build(), 2);
        CHECK.items("the first page", x, 1, 1, 0, 1);
        CHECK.items("the second page", x, 0, 1, 0, 2);
        CHECK.due("nothing is left", x.count(1) + x.count(2), 0);
        ColumnDesk y = new ColumnDesk();
        y.page(20, 0);
        y.top(0, 1, 0, 1);
        y.box(1, 20, 0, 0);
        y.penalty(-9999);
        y.box(2, 1, 0, 0);
        y.penalty(-10000);
        CHECK.due("a forced break with a B is the best", y.build(), 1);
        CHECK.items("its items", y, 0, 0, 5, 2, 7, 2);
        y.box(3, 1, 0, 0);
        y.penalty(Integer.MIN_VALUE);
        CHECK.due("the least penalty", y.build(), 1);
    }

    private static void restBeginsTheNextPage() {
        ColumnDesk x = new ColumnDesk();
        x.page(10, 0);
        for (int i = 0; i < 200; i++) {
            x.box(i, 5, 0, 0);
            x.glue(0, 0, 0, 0);
        }
        CHECK.due("two boxes a page", x.build(), 99);
        CHECK.items("the last page made", x, 0, 1, 0, 196, 0, 197);
        CHECK.items("the one ahead of it", x, 1, 1, 0, 194, 0, 195);
        CHECK.due("the rest", x.count(2), 5);
        CHECK.due("nothing more is made", x.build(), 0);
        CHECK.due("pages in all", x.count(0), 99);
    }

    private static void depthAndLimit() {
        ColumnDesk x = new ColumnDesk();
        x.page(100, 4);
        x.box(0, 10, 4, 0);
        x.build();
        depthIs(x, "as deep as the limit", 10, 4);
        x.rule(0, 10, 5);
        x.build();
        depthIs(x, "deeper than the limit", 25, 4);
        x.penalty(10000);
        x.build();
        depthIs(x, "behind a penalty", 29, 0);
        x.box(0, 1, 9, 0);
        x.glue(2, 0, 0, 0);
        x.build();
        depthIs(x, "behind glue", 41, 0);
        x.box(0, 1, 2, 0);
        x.kern(3);
        x.kern(3);
        x.build();
        depthIs(x, "behind a kern", 47, 0);
        x.box(0, 0, -6, 0);
        x.build();
        depthIs(x, "a depth below 0", 50, -6);
        x.box(0, 0, 0, 0);
        x.build();
        depthIs(x, "behind a depth below 0", 44, 0);
    }

    private static void depthIs(ColumnDesk x, String when, long total, long depth) {
        CHECK.due(when + ": total", x.sum(0), total);
        CHECK.due(when + ": depth", x.sum(1), depth);
    }

    private static ColumnDesk forced(ColumnDesk x) {
        x.penalty(-10000);
        return x;
    }

    private static void canBeMade(String what, ColumnDesk x) {
        forced(x);
        CHECK.due(what + " can be made: build()", Check.thrownBy(() -> x.build()).equals(Check.NOTHING) ? 1 : 0, 1);
        CHECK.due(what + ": pages", x.count(0), 1);
    }

    private static void cannotBeMade(String what, ColumnDesk x) {
        forced(x);
        CHECK.throwsUnsupported(what + ": build()", () -> x.build());
        CHECK.due(what + ": pages", x.count(0), 0);
    }

    private static ColumnDesk withKerns(int first, int second) {
        ColumnDesk x = new ColumnDesk();
        x.box(0, 0, 0, 0);
        x.kern(first);
        x.kern(second);
        return x;
    }

    private static ColumnDesk withGlue(int stretch, int order, int shrink) {
        ColumnDesk x = new ColumnDesk();
        x.page(MOST, 0);
        x.top(0, MOST, 1, MOST);
        x.box(0, 0, 0, 0);
        x.penalty(10000);
        x.glue(0, stretch, order, shrink);
        return x;
    }

    private static ColumnDesk withBox(int width, int shift) {
        ColumnDesk x = new ColumnDesk();
        x.box(width, 0, 0, shift);
        return x;
    }

    private static void edgesOfWhatCanBeMade() {
        canBeMade("the greatest total", withKerns(MOST - 1, 1));
        cannotBeMade("a total too great", withKerns(MOST, 1));
        canBeMade("the least total", withKerns(1 - MOST, -1));
        cannotBeMade("a total too small", withKerns(-MOST, -1));
        canBeMade("the greatest stretch", withGlue(0, 1, 0));
        cannotBeMade("too much stretch", withGlue(1, 1, 0));
        for (int order = 0; order < 4; order++) {
            if (order != 1) {
                canBeMade("stretch of order " + order, withGlue(MOST, order, 0));
            }
        }
        cannotBeMade("too much shrink", withGlue(0, 0, 1));
        canBeMade("the greatest width", withBox(MOST - 5, 5));
        cannotBeMade("a width too great", withBox(MOST - 5, 6));
        canBeMade("widths below 0", withBox(-MOST, -MOST));
        for (int order = 0; order < 4; order++) {
            ColumnDesk x = new ColumnDesk();
            x.top(0, MOST, order, 0);
            x.box(0, 0, 0, 0);
            x.glue(0, 1, order, 0);
            x.glue(0, 1, 3 - order, 0);
            x.kern(0);
            cannotBeMade("too much stretch of order " + order, x);
        }
        onlyWhatThePageHasCounts();
    }

    private static void onlyWhatThePageHasCounts() {
        ColumnDesk x = new ColumnDesk();
        x.page(20, 0);
        x.box(0, 20, 0, 0);
        x.penalty(0);
        x.box(0, MOST, 0, 0);
        x.kern(MOST);
        x.kern(5 - MOST);
        x.kern(-MOST);
        x.penalty(-10000);
        CHECK.due("the too high rest is not of the first page", x.build(), 2);
        CHECK.items("the first page", x, 1, 0, 5, 2);
        ColumnDesk y = new ColumnDesk();
        y.page(0, MOST);
        y.box(0, MOST, MOST, 0);
        y.penalty(-10000);
        CHECK.due("the depth is not of the total", y.build(), 1);
    }

    private static void allIsGone() {
        ColumnDesk x = new ColumnDesk();
        x.page(100, 5);
        x.top(4, 0, 0, 0);
        x.box(1, 9, 0, 0);
        x.penalty(-10000);
        CHECK.due("a first page", x.build(), 1);
        x.box(2, 9, 0, 0);
        x.penalty(-10000);
        x.box(3, MOST, 0, 0);
        x.box(4, MOST, 0, 0);
        x.penalty(-10000);
        x.box(5, 9, 0, 0);
        x.kern(1);
        CHECK.throwsUnsupported("the third page", () -> x.build());
        CHECK.due("both pages were made", x.count(0), 2);
        CHECK.due("no items to come", x.count(1), 0);
        CHECK.due("no items on the page", x.count(2), 0);
        CHECK.due("no best break", x.count(3), 0);
        CHECK.due("no total", x.sum(0), 0);
        CHECK.throwsIndex("no page is kept", () -> x.about(0, 0));
        CHECK.throwsIndex("no item is kept", () -> x.item(0, 0, 0));
        CHECK.due("nothing is left to build", x.build(), 0);
        x.box(6, 2, 0, 0);
        x.penalty(-10000);
        CHECK.due("it goes on", x.build(), 1);
        CHECK.due("what was told stays: height", x.about(0, 0), 100);
        CHECK.items("what was told stays: top glue", x, 0, 1, 2, 6);
        CHECK.throwsIndex("only the new page is kept", () -> x.about(1, 0));
    }

    private static void slotsThatServeAgain() {
        ColumnDesk x = new ColumnDesk();
        x.page(90, 0);
        for (int i = 0; i < 5; i++) {
            x.rule(8, 7, 6);
            x.penalty(10000);
            x.glue(5, 4, 3, 2);
        }
        x.penalty(-10000);
        CHECK.due("a first page", x.build(), 1);
        x.box(1, 1, 0, 0);
        for (int i = 0; i < 14; i++) {
            x.kern(1);
        }
        x.penalty(-10000);
        CHECK.due("a second page", x.build(), 1);
        for (int i = 2; i < 16; i++) {
            CHECK.due("the height of a kern", x.item(0, i, 2), 0);
            CHECK.due("the depth of a kern", x.item(0, i, 3), 0);
            CHECK.due("the width of a kern", x.item(0, i, 1), 1);
        }
    }
}
