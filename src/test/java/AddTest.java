/** Promises 4 to 8: box(), rule(), glue(), kern() and penalty(). */
public final class AddTest {
    private static final int MOST = 1073741823;
    private static final Check CHECK = new Check("AddTest");

    public static void main(String[] args) {
        whichBoxes();
        whichRules();
        whichGlue();
        whichKernsAndPenalties();
        refusedItemsAreNotAdded();
        fourThousandToCome();
        fourThousandWithTopGlue();
        fourThousandWithPagesKept();
        roomAfterPagesAreForgotten();
        CHECK.end();
    }

    private static void whichBoxes() {
        ColumnDesk x = new ColumnDesk();
        CHECK.yes("the greatest box", x.box(MOST, MOST, MOST, MOST));
        CHECK.yes("the least box", x.box(-MOST, -MOST, -MOST, -MOST));
        for (int bad : new int[] {MOST + 1, -MOST - 1, Integer.MAX_VALUE, Integer.MIN_VALUE}) {
            CHECK.no("box width " + bad, x.box(bad, 0, 0, 0));
            CHECK.no("box height " + bad, x.box(0, bad, 0, 0));
            CHECK.no("box depth " + bad, x.box(0, 0, bad, 0));
            CHECK.no("box shift " + bad, x.box(0, 0, 0, bad));
        }
        CHECK.due("boxes to come", x.count(1), 2);
    }

    private static void whichRules() {
        ColumnDesk x = new ColumnDesk();
        CHECK.yes("the greatest rule", x.rule(MOST, MOST, MOST));
        CHECK.yes("the least rule", x.rule(-MOST, -MOST, -MOST));
        for (int bad : new int[] {MOST + 1, -MOST - 1, Integer.MAX_VALUE, Integer.MIN_VALUE}) {
            CHECK.no("rule width " + bad, x.rule(bad, 0, 0));
            CHECK.no("rule height " + bad, x.rule(0, bad, 0));
            CHECK.no("rule depth " + bad, x.rule(0, 0, bad));
        }
        CHECK.due("rules to come", x.count(1), 2);
    }

    private static void whichGlue() {
        ColumnDesk x = new ColumnDesk();
        CHECK.yes("the greatest glue", x.glue(MOST, MOST, 3, MOST));
        CHECK.yes("the least glue", x.glue(-MOST, 0, 0, 0));
        for (int bad : new int[] {MOST + 1, -MOST - 1, Integer.MAX_VALUE, Integer.MIN_VALUE}) {
            CHECK.no("glue width " + bad, x.glue(bad, 0, 0, 0));
            CHECK.no("glue stretch " + bad, x.glue(0, bad, 0, 0));
            CHECK.no("glue shrink " + bad, x.glue(0, 0, 0, bad));
            CHECK.no("glue order " + bad, x.glue(0, 0, bad, 0));
        }
        CHECK.no("stretch below 0", x.glue(0, -1, 0, 0));
        CHECK.no("shrink below 0", x.glue(0, 0, 0, -1));
        CHECK.no("order -1", x.glue(0, 0, -1, 0));
        CHECK.no("order 4", x.glue(0, 0, 4, 0));
        CHECK.due("glue to come", x.count(1), 2);
    }

    private static void whichKernsAndPenalties() {
        ColumnDesk x = new ColumnDesk();
        CHECK.yes("the greatest kern", x.kern(MOST));
        CHECK.yes("the least kern", x.kern(-MOST));
        CHECK.no("kern 1073741824", x.kern(MOST + 1));
        CHECK.no("kern -1073741824", x.kern(-MOST - 1));
        CHECK.yes("the greatest penalty", x.penalty(Integer.MAX_VALUE));
        CHECK.yes("the least penalty", x.penalty(Integer.MIN_VALUE));
        CHECK.due("kerns and penalties to come", x.count(1), 4);
    }

    private static void refusedItemsAreNotAdded() {
        ColumnDesk x = new ColumnDesk();
        x.box(MOST + 1, 0, 0, 0);
        x.rule(0, 0, MOST + 1);
        x.glue(0, 0, 4, 0);
        x.kern(MOST + 1);
        CHECK.due("nothing to come", x.count(1), 0);
    }

    /** Adds penalties until there are so many items in all. */
    private static void addPenalties(ColumnDesk x, int many, int p) {
        for (int i = 0; i < many; i++) {
            CHECK.yes("penalty " + i + " of " + many, x.penalty(p));
        }
    }

    private static void allAreRefused(String when, ColumnDesk x) {
        CHECK.no(when + ": box", x.box(0, 0, 0, 0));
        CHECK.no(when + ": rule", x.rule(0, 0, 0));
        CHECK.no(when + ": glue", x.glue(0, 0, 0, 0));
        CHECK.no(when + ": kern", x.kern(0));
        CHECK.no(when + ": penalty", x.penalty(0));
    }

    private static void fourThousandToCome() {
        ColumnDesk x = new ColumnDesk();
        addPenalties(x, 4000, 10000);
        allAreRefused("4000 to come", x);
        CHECK.due("4000 to come", x.count(1), 4000);
        CHECK.due("they are gone", x.build(), 0);
        CHECK.due("none to come", x.count(1), 0);
        CHECK.yes("one more", x.box(0, 0, 0, 0));
    }

    private static void fourThousandWithTopGlue() {
        ColumnDesk x = new ColumnDesk();
        x.box(1, 1, 0, 0);
        x.build();
        CHECK.due("top glue and box", x.count(2), 2);
        addPenalties(x, 3998, 10000);
        allAreRefused("2 on the page", x);
        x.build();
        CHECK.due("all on the page", x.count(2), 4000);
        allAreRefused("4000 on the page", x);

        ColumnDesk y = new ColumnDesk();
        y.box(1, 1, 0, 0);
        addPenalties(y, 3999, 10000);
        y.build();
        CHECK.due("the top glue comes at 4000", y.count(2), 4001);
        allAreRefused("4001 on the page", y);
    }

    private static void fourThousandWithPagesKept() {
        ColumnDesk x = new ColumnDesk();
        for (int i = 0; i < 9; i++) {
            x.box(1, 1, 0, 0);
            x.penalty(-10000);
        }
        CHECK.due("nine pages", x.build(), 9);
        // Each of the eight kept has its top glue and its box and counts one more.
        addPenalties(x, 4000 - 8 * 3, 10000);
        allAreRefused("8 pages kept", x);
    }

    private static void roomAfterPagesAreForgotten() {
        ColumnDesk x = new ColumnDesk();
        x.box(1, 1, 0, 0);
        addPenalties(x, 3000, 10000);
        x.penalty(-10000);
        CHECK.due("one long page", x.build(), 1);
        CHECK.due("its items", x.about(0, 3), 3002);
        addPenalties(x, 4000 - 3003, 10000);
        allAreRefused("a long page kept", x);
        x.build();
        for (int i = 0; i < 8; i++) {
            x.box(1, 1, 0, 0);
            x.penalty(-10000);
        }
        CHECK.due("eight short pages", x.build(), 8);
        addPenalties(x, 4000 - 8 * 3, 10000);
        allAreRefused("the long page is not kept any more", x);
        x.build();
        x.box(0, MOST, 0, 0);
        x.box(0, MOST, 0, 0);
        x.penalty(-10000);
        CHECK.throwsUnsupported("a page that can't be made", () -> x.build());
        addPenalties(x, 4000, 10000);
        allAreRefused("no page kept any more", x);
    }
}
