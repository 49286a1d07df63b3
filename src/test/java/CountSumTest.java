/** Promises 12 and 13: count() and sum(). */
public final class CountSumTest {
    private static final Check CHECK = new Check("CountSumTest");

    public static void main(String[] args) {
        counts();
        sums();
        hugeSums();
        CHECK.end();
    }

    private static void countsAre(String when, ColumnDesk x, int... want) {
        for (int what = 0; what < want.length; what++) {
            CHECK.due(when + ": count(" + what + ")", x.count(what), want[what]);
        }
    }

    private static void sumsAre(String when, ColumnDesk x, long... want) {
        for (int what = 0; what < want.length; what++) {
            CHECK.due(when + ": sum(" + what + ")", x.sum(what), want[what]);
        }
    }

    private static void counts() {
        ColumnDesk x = new ColumnDesk();
        x.page(20, 0);
        x.box(1, 10, 0, 0);
        x.glue(1, 0, 0, 0);
        countsAre("added", x, 0, 2, 0, 0);
        x.build();
        countsAre("built", x, 0, 0, 3, 1);
        x.box(1, 30, 0, 0);
        x.build();
        countsAre("a second box", x, 0, 0, 4, 1);
        x.penalty(0);
        x.box(1, 1, 0, 0);
        x.kern(2);
        x.build();
        countsAre("two pages", x, 2, 1, 2, 0);
        for (int bad : new int[] {-1, 4, Integer.MAX_VALUE, Integer.MIN_VALUE}) {
            CHECK.due("count(" + bad + ")", x.count(bad), ColumnDesk.NONE);
        }
    }

    private static void sums() {
        ColumnDesk x = new ColumnDesk();
        x.page(40, 2);
        x.top(12, 1, 0, 2);
        x.box(1, 10, 3, 0);
        sumsAre("not built", x, 0, 0, 0, 0, 0);
        x.build();
        sumsAre("a box", x, 13, 2, 2, 1, 0);
        x.glue(4, 8, 0, 16);
        x.glue(4, 32, 1, 64);
        x.build();
        sumsAre("a box and glue", x, 23, 0, 82, 9, 100000);
        x.penalty(-7);
        x.build();
        sumsAre("a penalty", x, 23, 0, 82, 9, -7);
        x.box(0, 20, 1, 0);
        x.build();
        sumsAre("a second box", x, 43, 1, 82, 9, -7);
        for (int bad : new int[] {-1, 5, Integer.MAX_VALUE, Integer.MIN_VALUE}) {
            CHECK.due("sum(" + bad + ")", x.sum(bad), 0);
        }
        x.penalty(-20000);
        x.build();
        sumsAre("the page has ended", x, 0, 0, 0, 0, 0);
    }

    private static void hugeSums() {
        int most = 1073741823;
        ColumnDesk x = new ColumnDesk();
        for (int i = 0; i < 100; i++) {
            x.box(0, most, most, 0);
            x.penalty(10000);
            x.glue(most, most, 0, most);
        }
        CHECK.due("no page ends", x.build(), 0);
        sumsAre("beyond an int", x, 300L * most, 0, 100L * most, 100L * most, 0);
    }
}
