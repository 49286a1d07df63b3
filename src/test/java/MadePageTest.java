/** Promises 10 and 11: about() and item(), and how the glue of a page made is set. */
public final class MadePageTest {
    private static final int MOST = 1073741823;
    private static final Check CHECK = new Check("MadePageTest");

    public static void main(String[] args) {
        whatIsToldOfAPage();
        whatIsToldOfItems();
        noSuchThing();
        theLastEight();
        stretchIsShared();
        onlyTheHighestOrderStretches();
        shrinkIsShared();
        noMoreThanTheShrink();
        setWidthsAreBounded();
        depthOfAPage();
        CHECK.end();
    }

    private static void whatIsToldOfAPage() {
        ColumnDesk x = new ColumnDesk();
        x.page(40, 3);
        x.box(10, 5, 1, 7);
        x.rule(16, 5, 1);
        x.box(30, 5, 9, -14);
        x.penalty(-10000);
        x.build();
        CHECK.due("height", x.about(0, 0), 40);
        CHECK.due("depth", x.about(0, 1), 3);
        CHECK.due("width and shift together", x.about(0, 2), 17);
        CHECK.due("items", x.about(0, 3), 4);
        x.box(-10, 5, 1, 7);
        x.kern(900);
        x.penalty(-10000);
        x.build();
        CHECK.due("a width is at least 0, and a kern has none", x.about(0, 2), 0);
        x.rule(18, 0, 0);
        x.penalty(-10000);
        x.build();
        CHECK.due("the width of a rule", x.about(0, 2), 18);
    }

    private static void whatIsToldOfItems() {
        ColumnDesk x = new ColumnDesk();
        x.page(40, 3);
        x.top(11, 0, 0, 0);
        x.box(10, 5, 8, 7);
        x.glue(2, 0, 3, 0);
        x.rule(16, -6, -1);
        x.kern(-3);
        x.penalty(Integer.MAX_VALUE);
        x.penalty(-10000);
        x.build();
        CHECK.items("kinds", x, 0, 0, 5, 2, 5, 4, 6, 7);
        CHECK.items("widths", x, 0, 1, 6, 10, 2, 16, -3, Integer.MAX_VALUE);
        CHECK.items("heights", x, 0, 2, 0, 5, 0, -6, 0, 0);
        CHECK.items("depths", x, 0, 3, 0, 8, 0, -1, 0, 0);
        aForcedPenaltyOnAPage();
    }

    /** A penalty of -10000 stays to come, so only a penalty above it is told of a page. */
    private static void aForcedPenaltyOnAPage() {
        ColumnDesk x = new ColumnDesk();
        x.page(40, 3);
        x.top(0, 1, 1, 0);
        x.box(10, 5, 0, 0);
        x.penalty(-9999);
        x.penalty(-10000);
        CHECK.due("one page", x.build(), 1);
        CHECK.items("the penalty's number", x, 0, 1, 35, 10, -9999);
    }

    private static void noSuchThing() {
        ColumnDesk x = new ColumnDesk();
        x.box(1, 1, 0, 0);
        x.penalty(-10000);
        x.build();
        for (int bad : new int[] {-1, 4, Integer.MAX_VALUE, Integer.MIN_VALUE}) {
            CHECK.throwsIndex("about(0, " + bad + ")", () -> x.about(0, bad));
            CHECK.throwsIndex("about(" + bad + ", 0)", () -> x.about(bad, 0));
            CHECK.throwsIndex("item(" + bad + ", 0, 0)", () -> x.item(bad, 0, 0));
            CHECK.throwsIndex("item(0, " + bad + ", 0)", () -> x.item(0, bad, 0));
            CHECK.throwsIndex("item(0, 0, " + bad + ")", () -> x.item(0, 0, bad));
        }
        CHECK.throwsIndex("about(1, 0)", () -> x.about(1, 0));
        CHECK.throwsIndex("item(1, 0, 0)", () -> x.item(1, 0, 0));
        CHECK.throwsIndex("item(0, 2, 0)", () -> x.item(0, 2, 0));
        CHECK.due("the last item", x.item(0, 1, 0), 2);
    }

    private static void theLastEight() {
        ColumnDesk x = new ColumnDesk();
        for (int i = 1; i <= 20; i++) {
            x.page(i, 0);
            x.box(i * 10, 0, 0, 0);
            x.penalty(10000 + i);
            x.penalty(-10000);
            CHECK.due("page " + i, x.build(), 1);
            for (int k = 0; k < 8 && k < i; k++) {
                CHECK.due(i + " made: height of " + k, x.about(k, 0), i - k);
                CHECK.due(i + " made: width of " + k, x.about(k, 2), (i - k) * 10);
                CHECK.due(i + " made: penalty of " + k, x.item(k, 2, 1), 10000 + i - k);
            }
            int past = Math.min(i, 8);
            CHECK.throwsIndex(i + " made: about(" + past + ", 0)", () -> x.about(past, 0));
            CHECK.throwsIndex(i + " made: item(" + past + ", 0, 0)", () -> x.item(past, 0, 0));
            CHECK.throwsIndex(i + " made: about(-1, 0)", () -> x.about(-1, 0));
            CHECK.throwsIndex(i + " made: item(-1, 0, 0)", () -> x.item(-1, 0, 0));
        }
    }

    /** A page of top glue and three glues, forced to end. */
    private static ColumnDesk fourGlues(int goal, int[] stretch, int[] order, int[] shrink) {
        ColumnDesk x = new ColumnDesk();
        x.page(goal, 0);
        x.top(100, stretch[0], order[0], shrink[0]);
        x.box(1, 100, 0, 0);
        x.penalty(10000);
        for (int i = 1; i < 4; i++) {
            x.glue(0, stretch[i], order[i], shrink[i]);
        }
        x.penalty(-10000);
        x.build();
        return x;
    }

    private static final int[] NOTHING = {0, 0, 0, 0};

    private static void stretchIsShared() {
        int[] one = {1, 1, 1, 1};
        CHECK.items("10 by four", fourGlues(110, one, NOTHING, NOTHING), 0, 1, 3, 1, 10000, 2, 3, 2);
        CHECK.items("1 by four", fourGlues(101, one, NOTHING, NOTHING), 0, 1, 0, 1, 10000, 1, 0, 0);
        int[] more = {1, 0, 3, 3};
        CHECK.items("10 by 1, 0, 3, 3", fourGlues(110, more, NOTHING, NOTHING), 0, 1, 1, 1, 10000, 0, 5, 4);
        CHECK.items("no stretch", fourGlues(110, NOTHING, NOTHING, one), 0, 1, 0, 1, 10000, 0, 0, 0);
        CHECK.items("no excess", fourGlues(100, one, NOTHING, one), 0, 1, 0, 1, 10000, 0, 0, 0);
    }

    private static void onlyTheHighestOrderStretches() {
        int[] stretch = {5, 2, 9, 4};
        int[] order = {1, 2, 0, 2};
        CHECK.items("order 2", fourGlues(160, stretch, order, NOTHING), 0, 1, 0, 1, 10000, 20, 0, 40);
        int[] none = {5, 2, 0, 0};
        int[] high = {1, 1, 3, 2};
        CHECK.items("an order without stretch", fourGlues(170, none, high, NOTHING), 0, 1, 50, 1, 10000, 20, 0, 0);
    }

    private static void shrinkIsShared() {
        int[] shrink = {4, 4, 4, 4};
        CHECK.items("-10 by four", fourGlues(90, NOTHING, NOTHING, shrink), 0, 1, -3, 1, 10000, -2, -3, -2);
        int[] some = {0, 9, 1, 2};
        int[] order = {1, 2, 3, 0};
        CHECK.items("of all orders", fourGlues(94, some, order, some), 0, 1, 0, 1, 10000, -5, 0, -1);
    }

    private static void noMoreThanTheShrink() {
        int[] shrink = {0, 2, 1, 2};
        CHECK.items("more than the shrink", fourGlues(50, NOTHING, NOTHING, shrink), 0, 1, 0, 1, 10000, -2, -1, -2);
        CHECK.items("no shrink", fourGlues(50, shrink, NOTHING, NOTHING), 0, 1, 0, 1, 10000, 0, 0, 0);
    }

    private static void setWidthsAreBounded() {
        ColumnDesk x = new ColumnDesk();
        x.page(MOST, 0);
        x.top(MOST, 1, 0, 0);
        x.box(0, -MOST, 0, 0);
        x.kern(-MOST);
        x.kern(-MOST);
        x.penalty(-10000);
        CHECK.due("build()", x.build(), 1);
        CHECK.due("the widest glue", x.item(0, 0, 1), Integer.MAX_VALUE);
        ColumnDesk y = new ColumnDesk();
        y.page(-MOST, 0);
        y.box(0, MOST, 0, 0);
        y.penalty(10000);
        y.glue(-MOST, 0, 0, MOST);
        y.kern(MOST);
        y.penalty(-10000);
        CHECK.due("build()", y.build(), 1);
        CHECK.due("the narrowest glue", y.item(0, 3, 1), -2147483646);
        ColumnDesk z = new ColumnDesk();
        z.page(MOST, 0);
        z.box(0, 0, 0, 0);
        z.kern(-MOST);
        z.glue(0, MOST - 1, 3, 0);
        z.glue(0, 1, 3, 0);
        z.penalty(-10000);
        CHECK.due("build()", z.build(), 1);
        CHECK.items("the greatest excess", z, 0, 1, 0, 0, -MOST, 2147483644, 2);
    }

    private static void depthOfAPage() {
        CHECK.due("deeper than the limit", depthOfPage(9, false), 4);
        CHECK.due("less deep", depthOfPage(3, false), 3);
        CHECK.due("below 0", depthOfPage(-3, false), -3);
        CHECK.due("behind a penalty", depthOfPage(3, true), 0);
    }

    private static int depthOfPage(int depth, boolean penalty) {
        ColumnDesk x = new ColumnDesk();
        x.page(40, 4);
        x.box(0, 10, depth, 0);
        if (penalty) {
            x.penalty(10000);
        }
        x.penalty(-10000);
        x.build();
        return x.about(0, 1);
    }
}
