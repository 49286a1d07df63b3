/** Promises 1 to 13: what is empty, what is refused, and that a refused call changes nothing. */
public final class RefusedTest {
    private static final int MOST = 1073741823;
    private static final int[] NO_SIZE = {MOST + 1, -MOST - 1, Integer.MAX_VALUE, Integer.MIN_VALUE};
    private static final int[] BELOW_ZERO = {-1, -MOST, -MOST - 1, Integer.MIN_VALUE};
    private static final int[] NO_ORDER = {-1, 4, Integer.MAX_VALUE, Integer.MIN_VALUE};
    private static final Check CHECK = new Check("RefusedTest");

    private interface Refused {
        boolean by(ColumnDesk x);
    }

    public static void main(String[] args) {
        emptyEverywhere();
        buildOfNothingChangesNothing();
        refusedPages();
        refusedTops();
        refusedBoxesAndRules();
        refusedGlueAndKerns();
        refusedWhenFull();
        wrongQuestionsChangeNothing();
        questionsChangeNothing();
        pagesOfOneBuildAlone();
        whatIsLeftWhenAPageCannotBeMade();
        CHECK.end();
    }

    /** All that can be asked of a desk, as one text. */
    private static String stateOf(ColumnDesk x) {
        StringBuilder text = new StringBuilder();
        for (int what = 0; what < 4; what++) {
            text.append(x.count(what)).append(' ');
        }
        for (int what = 0; what < 5; what++) {
            text.append(x.sum(what)).append(' ');
        }
        for (int k = 0; k < Math.min(8, x.count(0)) && isKept(x, k); k++) {
            text.append(pageOf(x, k));
        }
        return text.toString();
    }

    private static boolean isKept(ColumnDesk x, int k) {
        return Check.thrownBy(() -> x.about(k, 0)).equals(Check.NOTHING);
    }

    private static String pageOf(ColumnDesk x, int k) {
        StringBuilder text = new StringBuilder("| ");
        for (int what = 0; what < 4; what++) {
            text.append(x.about(k, what)).append(' ');
            for (int i = 0; i < x.about(k, 3); i++) {
                text.append(x.item(k, i, what)).append(' ');
            }
        }
        return text.toString();
    }

    private static void sameState(String when, String got, String want) {
        CHECK.yes(when + ": " + got + ", due is " + want, got.equals(want));
    }

    /** A desk with a page made, a page that has begun, and items to come, the last one a kern. */
    private static ColumnDesk busy() {
        ColumnDesk x = new ColumnDesk();
        x.page(30, 2);
        x.top(12, 3, 1, 4);
        x.box(10, 9, 4, 1);
        x.glue(2, 3, 0, 1);
        x.rule(7, 8, 1);
        x.penalty(-10000);
        x.box(11, 9, 1, 0);
        x.penalty(50);
        x.build();
        x.glue(1, 0, 0, 0);
        x.kern(6);
        return x;
    }

    /** Two more pages: the one that has begun, and one with all that is told. */
    private static String later(ColumnDesk x) {
        x.penalty(-10000);
        x.box(5, 6, 7, 0);
        x.build();
        String begun = stateOf(x);
        x.penalty(-10000);
        x.build();
        return begun + "then " + stateOf(x);
    }

    /** Refuses a call on a busy desk: it answers false, and all goes on as it would without it. */
    private static void refuses(String call, Refused refused) {
        ColumnDesk x = busy();
        String before = stateOf(x);
        CHECK.no(call, refused.by(x));
        sameState(call + " changes nothing", stateOf(x), before);
        sameState(call + " changes nothing later", later(x), later(busy()));
    }

    private static void emptyEverywhere() {
        ColumnDesk x = new ColumnDesk();
        noPageHasBegun("new", x);
        noPageIsKept("new", x);
        x.box(1, 2, 3, 4);
        noPageHasBegun("with an item to come", x);
        noPageIsKept("with an item to come", x);
        x.build();
        CHECK.due("a page without a best break: count(3)", x.count(3), 0);
        CHECK.due("a page without a best break: sum(4)", x.sum(4), 0);
        CHECK.due("new: no shrink of the top glue", x.sum(2), 0);
        CHECK.due("new: no stretch of the top glue", x.sum(3), 0);
        noPageIsKept("with a page that has begun", x);
        x.penalty(-10000);
        x.build();
        noPageHasBegun("behind a page made", x);
        CHECK.due("behind a page made: the page", x.about(0, 3), 2);
    }

    private static void noPageHasBegun(String when, ColumnDesk x) {
        CHECK.due(when + ": items on the page", x.count(2), 0);
        CHECK.due(when + ": best break", x.count(3), 0);
        for (int what = 0; what < 5; what++) {
            CHECK.due(when + ": sum(" + what + ")", x.sum(what), 0);
        }
    }

    private static void noPageIsKept(String when, ColumnDesk x) {
        for (int what = 0; what < 4; what++) {
            int asked = what;
            CHECK.throwsIndex(when + ": about(0, " + what + ")", () -> x.about(0, asked));
            CHECK.throwsIndex(when + ": item(0, 0, " + what + ")", () -> x.item(0, 0, asked));
        }
    }

    private static void buildOfNothingChangesNothing() {
        ColumnDesk x = new ColumnDesk();
        String before = stateOf(x);
        CHECK.due("build() of nothing", x.build(), 0);
        sameState("build() of nothing", stateOf(x), before);
        ColumnDesk y = busy();
        y.build();
        before = stateOf(y);
        CHECK.due("build() once more", y.build(), 0);
        sameState("build() once more", stateOf(y), before);
    }

    private static void refusedPages() {
        for (int bad : NO_SIZE) {
            refuses("page(" + bad + ", 1)", x -> x.page(bad, 1));
            refuses("page(40, " + bad + ")", x -> x.page(40, bad));
        }
        for (int bad : BELOW_ZERO) {
            refuses("page(40, " + bad + ")", x -> x.page(40, bad));
        }
    }

    private static void refusedTops() {
        for (int bad : NO_SIZE) {
            refuses("top of width " + bad, x -> x.top(bad, 1, 0, 1));
            refuses("top of stretch " + bad, x -> x.top(20, bad, 0, 1));
            refuses("top of shrink " + bad, x -> x.top(20, 1, 0, bad));
        }
        for (int bad : BELOW_ZERO) {
            refuses("top of stretch " + bad, x -> x.top(20, bad, 0, 1));
            refuses("top of shrink " + bad, x -> x.top(20, 1, 0, bad));
        }
        for (int bad : NO_ORDER) {
            refuses("top of order " + bad, x -> x.top(20, 1, bad, 1));
        }
    }

    private static void refusedBoxesAndRules() {
        for (int bad : NO_SIZE) {
            refuses("box of width " + bad, x -> x.box(bad, 1, 1, 1));
            refuses("box of height " + bad, x -> x.box(1, bad, 1, 1));
            refuses("box of depth " + bad, x -> x.box(1, 1, bad, 1));
            refuses("box of shift " + bad, x -> x.box(1, 1, 1, bad));
            refuses("rule of width " + bad, x -> x.rule(bad, 1, 1));
            refuses("rule of height " + bad, x -> x.rule(1, bad, 1));
            refuses("rule of depth " + bad, x -> x.rule(1, 1, bad));
        }
    }

    private static void refusedGlueAndKerns() {
        for (int bad : NO_SIZE) {
            refuses("glue of width " + bad, x -> x.glue(bad, 1, 0, 1));
            refuses("glue of stretch " + bad, x -> x.glue(1, bad, 0, 1));
            refuses("glue of shrink " + bad, x -> x.glue(1, 1, 0, bad));
            refuses("kern of width " + bad, x -> x.kern(bad));
        }
        for (int bad : BELOW_ZERO) {
            refuses("glue of stretch " + bad, x -> x.glue(1, bad, 0, 1));
            refuses("glue of shrink " + bad, x -> x.glue(1, 1, 0, bad));
        }
        for (int bad : NO_ORDER) {
            refuses("glue of order " + bad, x -> x.glue(1, 1, bad, 1));
        }
    }

    /** A page made, a page that has begun, items to come: 4000 in all, with the one more of the page. */
    private static void refusedWhenFull() {
        ColumnDesk x = busy();
        int held = x.about(0, 3) + 1 + x.count(2) + x.count(1);
        for (int i = held; i < 4000; i++) {
            CHECK.yes("item " + i, x.penalty(10000));
        }
        String before = stateOf(x);
        Refused[] adds = {
            y -> y.box(0, 0, 0, 0), y -> y.rule(0, 0, 0), y -> y.glue(0, 0, 0, 0), y -> y.kern(0), y -> y.penalty(0),
        };
        for (int i = 0; i < adds.length; i++) {
            CHECK.no("4000 items: call " + i, adds[i].by(x));
            sameState("4000 items: call " + i, stateOf(x), before);
        }
        CHECK.yes("page() is no item", x.page(60, 0));
        CHECK.yes("top() is no item", x.top(0, 0, 0, 0));
        CHECK.due("all come", x.build(), 0);
        CHECK.due("to the page", x.count(2), 4000 - x.about(0, 3) - 1);
    }

    private static void wrongQuestionsChangeNothing() {
        ColumnDesk x = busy();
        String before = stateOf(x);
        int items = x.about(0, 3);
        for (int bad : new int[] {-1, 1, 7, 8, Integer.MAX_VALUE, Integer.MIN_VALUE}) {
            CHECK.throwsIndex("about(" + bad + ", 0)", () -> x.about(bad, 0));
            CHECK.throwsIndex("item(" + bad + ", 0, 0)", () -> x.item(bad, 0, 0));
        }
        for (int bad : new int[] {-1, 4, Integer.MAX_VALUE, Integer.MIN_VALUE}) {
            CHECK.throwsIndex("about(0, " + bad + ")", () -> x.about(0, bad));
            CHECK.throwsIndex("item(0, 0, " + bad + ")", () -> x.item(0, 0, bad));
            CHECK.due("count(" + bad + ")", x.count(bad), -1);
        }
        for (int bad : new int[] {-1, items, Integer.MAX_VALUE, Integer.MIN_VALUE}) {
            CHECK.throwsIndex("item(0, " + bad + ", 0)", () -> x.item(0, bad, 0));
        }
        for (int bad : new int[] {-1, 5, Integer.MAX_VALUE, Integer.MIN_VALUE}) {
            CHECK.due("sum(" + bad + ")", x.sum(bad), 0);
        }
        sameState("wrong questions", stateOf(x), before);
        sameState("wrong questions, later", later(x), later(busy()));
    }

    private static void questionsChangeNothing() {
        ColumnDesk x = busy();
        String before = stateOf(x);
        sameState("questions", stateOf(x), before);
        sameState("questions, later", later(x), later(busy()));
    }

    private static void pagesOfOneBuildAlone() {
        ColumnDesk x = new ColumnDesk();
        for (int pages = 0; pages < 4; pages++) {
            for (int i = 0; i < pages; i++) {
                x.box(0, 0, 0, 0);
                x.penalty(-10000);
            }
            CHECK.due("build() of " + pages + " pages", x.build(), pages);
        }
        CHECK.due("pages of all builds", x.count(0), 6);
    }

    private static void whatIsLeftWhenAPageCannotBeMade() {
        ColumnDesk x = busy();
        x.kern(MOST);
        x.kern(MOST);
        x.penalty(-10000);
        x.box(1, 1, 1, 1);
        x.kern(1);
        // The page that has begun ends at its penalty of 50; the kerns are gone behind it.
        CHECK.due("an earlier best break", x.build(), 1);
        x.kern(MOST);
        x.kern(MOST);
        x.penalty(-10000);
        x.glue(1, 1, 1, 1);
        CHECK.throwsUnsupported("a total that is no SIZE", () -> x.build());
        noPageHasBegun("a page that can't be made", x);
        noPageIsKept("a page that can't be made", x);
        CHECK.due("no items to come", x.count(1), 0);
        CHECK.due("nothing to build", x.build(), 0);
    }
}
