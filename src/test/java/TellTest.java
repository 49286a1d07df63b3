/** Promises 1 to 3: a new object, page() and top(). */
public final class TellTest {
    private static final int MOST = 1073741823;
    private static final Check CHECK = new Check("TellTest");

    public static void main(String[] args) {
        newObject();
        whichPages();
        whichTops();
        toldForPagesThatBegin();
        topLessTheHeight();
        CHECK.end();
    }

    private static void newObject() {
        ColumnDesk x = new ColumnDesk();
        for (int what = 0; what < 4; what++) {
            CHECK.due("new: count(" + what + ")", x.count(what), 0);
        }
        for (int what = 0; what < 5; what++) {
            CHECK.due("new: sum(" + what + ")", x.sum(what), 0);
        }
        CHECK.throwsIndex("new: about(0, 0)", () -> x.about(0, 0));
        CHECK.throwsIndex("new: item(0, 0, 0)", () -> x.item(0, 0, 0));
        CHECK.due("new: build()", x.build(), 0);
        x.box(4, 3, 2, 1);
        x.penalty(-10000);
        CHECK.due("new: build() of a box", x.build(), 1);
        CHECK.due("new: height", x.about(0, 0), 0);
        CHECK.due("new: depth", x.about(0, 1), 0);
        CHECK.items("new: top glue", x, 0, 0, 5, 2);
        CHECK.items("new: top width", x, 0, 1, 0, 4);
    }

    private static void whichPages() {
        ColumnDesk x = new ColumnDesk();
        CHECK.yes("page(7, 1)", x.page(7, 1));
        CHECK.no("page(1073741824, 0)", x.page(MOST + 1, 0));
        CHECK.no("page(-1073741824, 0)", x.page(-MOST - 1, 0));
        CHECK.no("page(0, 1073741824)", x.page(0, MOST + 1));
        CHECK.no("page(0, -1)", x.page(0, -1));
        CHECK.no("page of the least int", x.page(Integer.MIN_VALUE, Integer.MIN_VALUE));
        CHECK.due("a page of the heights told", heightOf(x), 7);
        CHECK.yes("page(1073741823, 1073741823)", x.page(MOST, MOST));
        CHECK.due("the greatest height", heightOf(x), MOST);
        CHECK.yes("page(-1073741823, 0)", x.page(-MOST, 0));
        CHECK.due("the least height", heightOf(x), -MOST);
    }

    private static int heightOf(ColumnDesk x) {
        x.box(0, 0, 0, 0);
        x.penalty(-10000);
        x.build();
        return x.about(0, 0);
    }

    private static void whichTops() {
        ColumnDesk x = new ColumnDesk();
        CHECK.yes("top(9, 0, 0, 0)", x.top(9, 0, 0, 0));
        CHECK.no("width too great", x.top(MOST + 1, 0, 0, 0));
        CHECK.no("width too small", x.top(-MOST - 1, 0, 0, 0));
        CHECK.no("stretch too great", x.top(0, MOST + 1, 0, 0));
        CHECK.no("stretch below 0", x.top(0, -1, 0, 0));
        CHECK.no("order 4", x.top(0, 0, 4, 0));
        CHECK.no("order -1", x.top(0, 0, -1, 0));
        CHECK.no("shrink too great", x.top(0, 0, 0, MOST + 1));
        CHECK.no("shrink below 0", x.top(0, 0, 0, -1));
        x.box(1, 2, 0, 0);
        x.build();
        CHECK.due("a refused top glue changes nothing", x.sum(0), 9);
        CHECK.yes("the greatest", new ColumnDesk().top(MOST, MOST, 3, MOST));
        CHECK.yes("the least", new ColumnDesk().top(-MOST, 0, 0, 0));
    }

    private static void toldForPagesThatBegin() {
        ColumnDesk x = new ColumnDesk();
        x.page(30, 1);
        x.top(10, 2, 0, 4);
        x.box(1, 6, 3, 0);
        x.build();
        CHECK.yes("told after the page has begun", x.page(20, 100) && x.top(0, 9, 1, 9));
        CHECK.due("its top glue and the rest of the depth", x.sum(0), 4 + 6 + 2);
        CHECK.due("its limit", x.sum(1), 1);
        CHECK.due("its shrink", x.sum(2), 4);
        CHECK.due("its stretch", x.sum(3), 2);
        x.penalty(-10000);
        x.box(1, 6, 3, 0);
        CHECK.due("build()", x.build(), 1);
        CHECK.due("the goal told when it began", x.about(0, 0), 30);
        CHECK.due("the next page: total", x.sum(0), 6);
        CHECK.due("the next page: depth", x.sum(1), 3);
        CHECK.due("the next page: shrink", x.sum(2), 9);
        CHECK.due("the next page: stretch of order 0", x.sum(3), 0);
    }

    private static void topLessTheHeight() {
        CHECK.due("lower than the top", totalUnderTop(10, 7), 10);
        CHECK.due("as high as the top", totalUnderTop(10, 10), 10);
        CHECK.due("higher than the top", totalUnderTop(10, 11), 11);
        CHECK.due("a height below 0", totalUnderTop(10, -5), 10);
        CHECK.due("a top below 0", totalUnderTop(-10, -5), -5);
        ColumnDesk x = new ColumnDesk();
        x.top(MOST, 0, 0, 0);
        x.rule(0, -MOST, 0);
        x.penalty(-10000);
        CHECK.due("the widest top: build()", x.build(), 1);
        CHECK.due("the widest top", x.item(0, 0, 1), 2147483646);
    }

    private static long totalUnderTop(int width, int height) {
        ColumnDesk x = new ColumnDesk();
        x.top(width, 0, 0, 0);
        x.rule(3, height, 0);
        x.build();
        return x.sum(0);
    }
}
