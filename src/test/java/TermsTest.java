/** The sentences of 'Terms' that name a boundary, where no other test stands at it. */
public final class TermsTest {
    private static final int MOST = 1073741823;
    private static final Check CHECK = new Check("TermsTest");

    public static void main(String[] args) {
        sizesAtTheirEndsStayAsTheyAre();
        everyOrderIsGlue();
        badnessIsRoundedDown();
        nearAtAHalfAndJustBeside();
        goneOnEveryNewPage();
        toldWhenThePageBegins();
        depthJustAtTheLimit();
        noBreakEvenOnAPageTooHigh();
        kernsAheadOfEachKind();
        lastKernWaitsBehindAPage();
        justNotForced();
        costOfAForcedBreak();
        costsThatAreEqual();
        costThatIsMore();
        noBWithoutABestBreak();
        itemsAreGivenBackInOrder();
        asHighAsTheGoal();
        excessOfTheWholeShrink();
        setWidthAtItsGreatest();
        widthJustAboveZero();
        theRestOfTheDepthIsOfTheTotal();
        anEarlierBestBreakSavesThePage();
        CHECK.end();
    }

    private static ColumnDesk desk(int height, int depth) {
        ColumnDesk x = new ColumnDesk();
        x.page(height, depth);
        return x;
    }

    private static int forceEnd(ColumnDesk x) {
        x.penalty(-10000);
        return x.build();
    }

    private static void sizesAtTheirEndsStayAsTheyAre() {
        ColumnDesk x = desk(0, 0);
        x.box(MOST, MOST, -MOST, 0);
        x.rule(-MOST, -MOST, MOST);
        x.kern(MOST);
        x.kern(-MOST);
        x.penalty(10000);
        x.glue(-MOST, 0, 0, 0);
        x.glue(MOST, 0, 0, 0);
        CHECK.due("sizes at their ends", forceEnd(x), 1);
        CHECK.items("widths", x, 0, 1, 0, MOST, -MOST, MOST, -MOST, 10000, -MOST, MOST);
        CHECK.items("heights", x, 0, 2, 0, MOST, -MOST, 0, 0, 0, 0, 0);
        CHECK.items("depths", x, 0, 3, 0, -MOST, MOST, 0, 0, 0, 0, 0);
    }

    private static void everyOrderIsGlue() {
        for (int order = 0; order <= 3; order++) {
            ColumnDesk x = new ColumnDesk();
            CHECK.yes("top of order " + order, x.top(0, 1, order, 0));
            CHECK.yes("glue of order " + order, x.glue(0, 1, order, 0));
        }
    }

    /** The cost of a page of nothing but a goal, behind top glue of such a stretch. */
    private static long badness(int goal, int stretch) {
        ColumnDesk x = desk(goal, 0);
        x.top(0, stretch, 0, 0);
        x.box(0, 0, 0, 0);
        x.penalty(0);
        x.build();
        return x.sum(4);
    }

    private static void badnessIsRoundedDown() {
        CHECK.due("r is 50", badness(50, 297), 0);
        CHECK.due("r is 51", badness(51, 297), 1);
        CHECK.due("r is 1290.99", badness(129099, 29700), 8189);
        CHECK.due("r is 1291 in great numbers", badness(129100, 29700), 100000);
        CHECK.due("r is 0.99", badness(1, 300), 0);
        CHECK.due("t and s as great as can be", badness(MOST, MOST), 100);
        for (long r = 0; r <= 1290; r++) {
            CHECK.due("r is " + r, badness((int) r, 297), (r * r * r + 131072) / 262144);
        }
    }

    /** Two glues share an excess; answers what the first of them gets. */
    private static long firstShare(int excess, int first, int second) {
        ColumnDesk x = desk(excess, 0);
        x.top(0, first, 0, first);
        x.box(0, 0, 0, 0);
        x.glue(0, second, 0, second);
        forceEnd(x);
        CHECK.due("both shares of " + excess, x.item(0, 0, 1) + x.item(0, 2, 1), excess);
        return x.item(0, 0, 1);
    }

    private static void nearAtAHalfAndJustBeside() {
        CHECK.due("a third", firstShare(1, 1, 2), 0);
        CHECK.due("a half", firstShare(1, 1, 1), 1);
        CHECK.due("two thirds", firstShare(1, 2, 1), 1);
        CHECK.due("a third below 0", firstShare(-1, 1, 2), 0);
        CHECK.due("a half below 0", firstShare(-1, 1, 1), -1);
        CHECK.due("two thirds below 0", firstShare(-1, 2, 1), -1);
        CHECK.due("just below a half", firstShare(1, MOST / 2 - 1, MOST / 2 + 1), 0);
        CHECK.due("just below a half, below 0", firstShare(-1, MOST / 2 - 1, MOST / 2 + 1), 0);
    }

    private static void goneOnEveryNewPage() {
        ColumnDesk x = desk(9, 0);
        x.box(1, 9, 0, 0);
        x.penalty(-10000);
        x.penalty(-10000);
        x.glue(4, 1, 0, 1);
        x.penalty(9999);
        x.penalty(10000);
        x.kern(5);
        x.glue(4, 1, 0, 1);
        CHECK.due("glue, kerns and penalties make no second page", x.build(), 1);
        CHECK.due("they are gone: to come", x.count(1), 0);
        CHECK.due("they are gone: on the page", x.count(2), 0);
        CHECK.due("they are no best break", x.count(3), 0);
        x.box(2, 3, 0, 0);
        x.build();
        CHECK.due("only the top glue stands ahead of the box", x.count(2), 2);
        CHECK.due("nothing of them in the total", x.sum(0), 3);
    }

    private static void toldWhenThePageBegins() {
        ColumnDesk x = desk(9, 9);
        x.top(99, 99, 0, 99);
        x.box(1, 5, 4, 0);
        x.page(20, 3);
        x.top(7, 1, 0, 2);
        x.build();
        CHECK.due("the top glue told when the box comes", x.sum(0), 2 + 5 + 1);
        CHECK.due("the limit told when the box comes", x.sum(1), 3);
        CHECK.due("its shrink", x.sum(2), 2);
        CHECK.due("its stretch", x.sum(3), 1);
        forceEnd(x);
        CHECK.due("the goal told when the box comes", x.about(0, 0), 20);
    }

    private static void depthJustAtTheLimit() {
        int[][] rows = {{5, 5, 10, 5}, {5, 6, 11, 5}, {5, 4, 10, 4}, {0, 0, 10, 0}, {0, 1, 11, 0}, {0, -1, 10, -1}};
        for (int[] row : rows) {
            String when = "limit " + row[0] + ", depth " + row[1];
            ColumnDesk x = desk(90, row[0]);
            x.rule(0, 10, row[1]);
            x.build();
            CHECK.due(when + ": total", x.sum(0), row[2]);
            CHECK.due(when + ": depth", x.sum(1), row[3]);
            x.box(0, 0, 0, 0);
            x.build();
            CHECK.due(when + ": total behind it", x.sum(0), 10 + row[1]);
        }
    }

    private static void noBreakEvenOnAPageTooHigh() {
        ColumnDesk x = desk(5, 0);
        x.box(0, 10, 0, 0);
        x.penalty(10000);
        x.glue(1, 0, 0, 0);
        x.glue(1, 0, 0, 0);
        x.kern(1);
        x.kern(1);
        x.penalty(10000);
        x.glue(1, 0, 0, 0);
        x.rule(0, 10, 0);
        CHECK.due("no page ends where there is no break", x.build(), 0);
        CHECK.due("all are on the page", x.count(2), 10);
        x.penalty(9999);
        CHECK.due("it ends at the first break", x.build(), 1);
        CHECK.due("with all its items", x.about(0, 3), 10);
    }

    private static void kernsAheadOfEachKind() {
        CHECK.due("a kern ahead of a box", breaksAtKern(x -> x.box(0, 0, 0, 0)), 0);
        CHECK.due("a kern ahead of a rule", breaksAtKern(x -> x.rule(0, 0, 0)), 0);
        CHECK.due("a kern ahead of glue", breaksAtKern(x -> x.glue(0, 0, 0, 0)), 1);
        CHECK.due("a kern ahead of a kern", breaksAtKern(x -> x.kern(0)), 0);
        CHECK.due("a kern ahead of a penalty", breaksAtKern(x -> x.penalty(10000)), 0);
    }

    private interface Adding {
        boolean to(ColumnDesk x);
    }

    /** The kern stands behind glue, so that the glue behind the kern is no break of its own. */
    private static int breaksAtKern(Adding behind) {
        ColumnDesk x = desk(50, 0);
        x.box(0, 1, 0, 0);
        x.penalty(10000);
        x.glue(0, 0, 0, 0);
        x.kern(1);
        behind.to(x);
        x.build();
        return x.count(3);
    }

    private static void lastKernWaitsBehindAPage() {
        ColumnDesk x = desk(9, 0);
        x.box(0, 9, 0, 0);
        x.penalty(-10000);
        x.kern(7);
        CHECK.due("the page is made", x.build(), 1);
        CHECK.due("the kern waits", x.count(1), 1);
        x.penalty(10000);
        x.build();
        CHECK.due("then it is gone", x.count(1), 0);
        x.box(0, 9, 0, 0);
        x.glue(1, 0, 0, 0);
        x.kern(1);
        x.box(0, 9, 0, 0);
        x.kern(2);
        CHECK.due("it is not the last one: it comes", x.build(), 0);
        CHECK.due("the last one waits", x.count(1), 1);
        x.glue(1, 0, 0, 0);
        CHECK.due("glue makes it a break, where the page is too high", x.build(), 1);
        CHECK.due("the page ends at the first glue", x.about(0, 3), 2);
    }

    private static void justNotForced() {
        ColumnDesk x = desk(50, 0);
        x.box(0, 1, 0, 0);
        x.penalty(-9999);
        CHECK.due("-9999 does not end the page", x.build(), 0);
        CHECK.due("it comes to the page", x.count(2), 3);
        x.penalty(-10000);
        CHECK.due("-10000 ends it", x.build(), 1);
        CHECK.due("ahead of itself", x.about(0, 3), 3);
        x.box(0, 1, 0, 0);
        x.penalty(-10001);
        CHECK.due("-10001 ends it", x.build(), 1);
    }

    private static void costOfAForcedBreak() {
        ColumnDesk x = desk(50, 0);
        x.top(0, 0, 0, 0);
        x.box(0, 50, 0, 0);
        x.penalty(-9999);
        x.kern(-1);
        CHECK.due("a B of 10000 does not count where p is -10000", forceEnd(x), 1);
        CHECK.due("the page has all its items", x.about(0, 3), 4);
    }

    private static void costsThatAreEqual() {
        ColumnDesk x = desk(50, 0);
        x.box(1, 1, 0, 0);
        x.penalty(-3);
        x.box(2, 1, 0, 0);
        x.penalty(3);
        x.box(3, 99, 0, 0);
        x.penalty(0);
        CHECK.due("costs of 100000", x.build(), 2);
        CHECK.items("the later one is the best", x, 1, 1, 0, 1, -3, 2);
    }

    private static void costThatIsMore() {
        ColumnDesk x = desk(50, 0);
        x.top(0, 1, 1, 0);
        x.box(1, 1, 0, 0);
        x.penalty(4);
        x.penalty(5);
        x.build();
        CHECK.due("the least cost stays", x.sum(4), 4);
        x.penalty(3);
        x.build();
        CHECK.due("a cost that is less", x.sum(4), 3);
        x.box(2, 99, 0, 0);
        x.penalty(0);
        x.build();
        CHECK.items("the best break is the third", x, 1, 1, 49, 1, 4, 5);
    }

    private static void noBWithoutABestBreak() {
        ColumnDesk x = desk(5, 0);
        x.box(1, 9, 0, 0);
        x.kern(2);
        x.glue(3, 0, 0, 0);
        x.box(2, 1, 0, 0);
        CHECK.due("too high at its first break", x.build(), 1);
        CHECK.items("what stands ahead of this one", x, 0, 0, 5, 2);
        CHECK.due("the next page", x.count(2), 2);
        CHECK.due("it has no best break", x.count(3), 0);
        CHECK.due("its least cost", x.sum(4), 0);
    }

    private static void itemsAreGivenBackInOrder() {
        ColumnDesk x = desk(10, 0);
        x.box(1, 10, 0, 0);
        x.penalty(0);
        x.rule(2, 1, 0);
        x.kern(3);
        x.penalty(10001);
        x.glue(-4, 0, 0, 0);
        x.box(5, 1, 0, 0);
        x.penalty(-1);
        x.box(6, 10, 0, 0);
        x.penalty(-10000);
        CHECK.due("three pages", x.build(), 3);
        CHECK.items("the first", x, 2, 1, 0, 1);
        CHECK.items("the second", x, 1, 1, 0, 2, 3, 10001, -4, 5);
        CHECK.items("the third", x, 0, 1, 0, 6);
    }

    private static void asHighAsTheGoal() {
        for (int goal : new int[] {-7, 0, 5, 10, 15}) {
            ColumnDesk x = desk(goal, 3);
            x.box(1, 10, 8, 0);
            forceEnd(x);
            CHECK.due("goal " + goal + ": height", x.about(0, 0), goal);
            CHECK.due("goal " + goal + ": depth", x.about(0, 1), 3);
            CHECK.items("goal " + goal + ": nothing can be set", x, 0, 1, 0, 1);
        }
    }

    private static void excessOfTheWholeShrink() {
        for (int excess = -5; excess >= -7; excess--) {
            ColumnDesk x = desk(20 + excess, 0);
            x.top(0, 9, 3, 4);
            x.box(1, 20, 0, 0);
            x.penalty(10000);
            x.glue(0, 9, 0, 2);
            forceEnd(x);
            int top = excess == -5 ? -3 : -4;
            CHECK.items("excess " + excess, x, 0, 1, top, 1, 10000, -2);
        }
    }

    private static int greatestSetWidth(int excess) {
        ColumnDesk x = desk(excess, 0);
        x.top(MOST, 1, 0, 0);
        x.box(0, -MOST, 0, 0);
        x.kern(-MOST);
        forceEnd(x);
        return x.item(0, 0, 1);
    }

    private static void setWidthAtItsGreatest() {
        ColumnDesk x = desk(MOST, 0);
        x.box(0, 0, 0, 0);
        x.penalty(10000);
        x.glue(MOST, 1, 0, 0);
        x.kern(-MOST);
        x.kern(-MOST);
        CHECK.due("glue that is told at its greatest", forceEnd(x), 1);
        CHECK.due("as it is set", x.item(0, 3, 1), 2147483647);
        CHECK.due("as it is told", greatestSetWidth(0), 2147483646);
        CHECK.due("just the greatest", greatestSetWidth(1), 2147483647);
        CHECK.due("one more", greatestSetWidth(2), 2147483647);
        CHECK.due("many more", greatestSetWidth(MOST), 2147483647);
    }

    private static void widthJustAboveZero() {
        int[][] rows = {{-5, 4, 0}, {-5, 5, 0}, {-5, 6, 1}, {5, -5, 0}, {5, -4, 1}, {MOST, -MOST, 0}};
        for (int[] row : rows) {
            ColumnDesk x = desk(9, 0);
            x.box(row[0], 1, 0, row[1]);
            forceEnd(x);
            CHECK.due("width " + row[0] + ", shift " + row[1], x.about(0, 2), row[2]);
        }
    }

    private static void theRestOfTheDepthIsOfTheTotal() {
        for (int limit = 0; limit < 2; limit++) {
            ColumnDesk x = desk(9, limit);
            x.box(0, MOST, 1, 0);
            x.penalty(-10000);
            String got = Check.thrownBy(() -> x.build());
            CHECK.yes("limit " + limit + ": " + got, got.equals(limit == 0 ? Check.UNSUPPORTED : Check.NOTHING));
        }
    }

    private static void anEarlierBestBreakSavesThePage() {
        ColumnDesk x = desk(9, 0);
        x.top(0, MOST, 0, MOST);
        x.box(1, 9, 0, 0);
        x.penalty(0);
        x.glue(0, 1, 0, 1);
        x.kern(MOST);
        x.kern(MOST);
        x.penalty(0);
        CHECK.due("what stands behind the best break does not count", x.build(), 1);
        CHECK.items("the page", x, 0, 1, 0, 1);
    }
}
