/** Promises 35 to 38 (39 stands in BodiesTest). */
public final class HostTest {
    private static final int BAD = RedTent.BAD, NOTHING = -11, OUTSIDE = -12, UNLIKE = -13, BELOW = -14;

    public static void main(String[] args) {
        Check check = new Check("HostTest");
        sheet(check);
        cell(check);
        copy(check);
        fixes(check);
        fixesRefusals(check);
        check.finish();
    }

    private static void sheet(Check check) {
        RedTent x = new RedTent();
        check.due("sheet -1", x.sheet(-1, 0, 0), BAD);
        check.due("sheet 4", x.sheet(4, 0, 0), BAD);
        check.due("sort -2", x.sheet(0, -2, 0), BAD);
        check.due("sort 3", x.sheet(0, 3, -1), BAD);
        check.due("n 41", x.sheet(0, 0, 41), BAD);
        check.due("n -1", x.sheet(0, 0, -1), BELOW);
        check.due("missing, n does not matter", x.sheet(0, -1, -1), 1);
        check.due("missing, n does not matter", x.sheet(0, -1, 41), 1);
        check.due("still missing", x.cell(0, 0, 0), NOTHING);
        check.due("n 0", x.sheet(3, 2, 0), 1);
        check.due("no item", x.cell(3, 0, 0), OUTSIDE);
        check.due("n 40", x.sheet(3, 1, 40), 1);
        check.due("the last", x.cell(3, 39, 7), 1);
        check.due("refused", x.sheet(3, 1, 41), BAD);
        check.due("nothing changed", x.cell(3, 39, 7), 1);
        check.due("missing again", x.sheet(3, -1, 3), 1);
        check.due("missing", x.cell(3, 0, 7), NOTHING);
        x.body(0, 1, 0, 0, 0);
        x.sheet(1, 0, 2);
        x.cell(1, 1, 9);
        check.due("becomes all 0", x.sheet(1, 0, 2), 1);
        x.fixes(0, 1, 0, 0, 1);
        check.due("cell 0 stood there", x.patch(0, 0, 0), 0);
        check.due("and not cell 1", x.count(3), 1);
    }

    private static void cell(Check check) {
        RedTent x = new RedTent();
        check.due("sheet -1", x.cell(-1, 0, 0), BAD);
        check.due("sheet 4", x.cell(4, 0, 0), BAD);
        check.due("missing", x.cell(0, -1, 0), NOTHING);
        x.sheet(0, 0, 2);
        x.sheet(1, 1, 2);
        x.sheet(2, 2, 2);
        check.due("item -1", x.cell(0, -1, 0), OUTSIDE);
        check.due("item 2", x.cell(0, 2, 0), OUTSIDE);
        x.body(0, 5, 0, 0, 0);
        int came = 0;
        int[][] rows = {{0, 256 + 5, 1}, {0, -256 + 5, 1}, {1, 256 + 5, 0}, {1, 65536 + 5, 1}, {2, 65536 + 5, 0}, {2, 5, 1}};
        for (int[] row : rows) {
            check.due("cell(" + row[0] + ", 1, " + row[1] + ")", x.cell(row[0], 1, row[1]), 1);
            check.due("as cell 5", x.fixes(0, row[0], row[0], 0, 1), row[2]);
            came += row[2];
        }
        check.due("came", x.count(3), came);
        for (int k = 0; k < 4; k++) {
            x.pass(48);
        }
        x.pass(8);
        x.cell(0, 0, 200);
        x.cell(0, 1, 5);
        check.due("a byte of 200 is -56, no hour", x.fixes(0, 0, 0, 0, 1), 0);
        x.cell(1, 0, 200);
        x.cell(1, 1, 5);
        check.due("a short of 200 is hour 200", x.fixes(0, 1, 1, 0, 1), 1);
        x.cell(0, 0, 127);
        check.due("a byte of 127", x.fixes(0, 0, 0, 0, 1), 1);
    }

    /** Reads item i of a sheet by what a fix in HOUR 0 narrows: only for cells 0 to 63. */
    private static boolean holds(RedTent x, int sheet, int i, int cell) {
        x.sheet(3, 0, 2);
        x.copy(sheet, i, 3, 1, 1);
        int body = x.count(1) - 1;
        if (x.bodyTold(body, 1) != cell) {
            body = x.body(0, cell, 0, 0, 0);
        }
        x.fixes(body, 3, 0, 0, 1);
        return x.patch(body, 0, 0) == 1L << cell;
    }

    private static void copy(Check check) {
        RedTent x = new RedTent();
        check.due("sheet -1", x.copy(-1, 0, 0, 0, 0), BAD);
        check.due("other 4", x.copy(0, 0, 4, 0, 0), BAD);
        check.due("both missing", x.copy(0, 0, 1, 0, 0), NOTHING);
        x.sheet(0, 0, 5);
        check.due("other missing", x.copy(0, -1, 1, 0, -1), NOTHING);
        check.due("one missing", x.copy(1, 0, 0, 0, 0), NOTHING);
        x.sheet(1, 1, 5);
        check.due("unlike sorts", x.copy(0, -1, 1, 0, -1), UNLIKE);
        x.sheet(1, 0, 3);
        check.due("n -1", x.copy(0, 0, 1, 0, -1), OUTSIDE);
        check.due("i -1", x.copy(0, -1, 1, 0, 0), OUTSIDE);
        check.due("j -1", x.copy(0, 0, 1, -1, 0), OUTSIDE);
        check.due("i 6", x.copy(0, 6, 1, 0, 0), OUTSIDE);
        check.due("i 5 with none", x.copy(0, 5, 1, 3, 0), 0);
        check.due("i 4 with 2", x.copy(0, 4, 1, 0, 2), OUTSIDE);
        check.due("j 2 with 2", x.copy(0, 0, 1, 2, 2), OUTSIDE);
        check.due("j 4 with none", x.copy(0, 0, 1, 4, 0), OUTSIDE);
        check.due("n that wraps", x.copy(0, 1, 1, 1, Integer.MAX_VALUE), OUTSIDE);
        check.due("i that wraps", x.copy(0, Integer.MAX_VALUE, 1, 1, 1), OUTSIDE);
        for (int k = 0; k < 5; k++) {
            x.cell(0, k, 10 + k);
        }
        check.due("3 from item 2 on", x.copy(0, 2, 1, 0, 3), 3);
        for (int k = 0; k < 3; k++) {
            check.holds("item " + k + " came", holds(x, 1, k, 12 + k));
        }
        check.due("over itself, up", x.copy(0, 0, 0, 1, 4), 4);
        int[] up = {10, 10, 11, 12, 13};
        for (int k = 0; k < 5; k++) {
            check.holds("item " + k + " as it was", holds(x, 0, k, up[k]));
        }
        RedTent y = new RedTent();
        y.sheet(0, 0, 4);
        for (int k = 0; k < 4; k++) {
            y.cell(0, k, 20 + k);
        }
        check.due("over itself, down", y.copy(0, 1, 0, 0, 3), 3);
        int[] down = {21, 22, 23, 23};
        for (int k = 0; k < 4; k++) {
            check.holds("item " + k + " as it was", holds(y, 0, k, down[k]));
        }
    }

    private static void fixes(Check check) {
        RedTent x = new RedTent();
        x.pass(2);
        x.body(0, 27, 0, 0, 0);
        x.wind(2, 9, 1313);
        x.pass(2);
        x.sheet(2, 2, 11);
        int[] items = {77, 3, 19, 1, 19, 5, 19, 4, 64, 4, -1};
        for (int k = 0; k < items.length; k++) {
            x.cell(2, k, items[k]);
        }
        check.due("from 1 on: 1 of 5 came", x.fixes(0, 2, 2, 1, 5), 1);
        check.due("fixes", x.count(3), 1);
        check.due("a set of that one", x.patch(0, 3, 4), 1L << 19);
        check.due("known from now on", x.patch(0, 3, 3) == 1L << 19 ? 1 : 0, 0);
        check.due("n 0", x.fixes(0, 2, 2, 1, 0), 0);
        check.due("n 0 reads no place", x.fixes(0, 2, 2, 99, 0), 0);
        check.due("what stood ahead came", x.fixes(0, 2, 2, 1, 6), OUTSIDE);
        check.due("fixes", x.count(3), 2);
        x.sheet(2, 2, 40);
        for (int k = 0; k < 40; k++) {
            x.cell(2, k, k % 2 == 0 ? 4 : 20);
        }
        check.due("20 came", x.fixes(0, 2, 2, 0, 20), 20);
        check.due("18 have room", x.fixes(0, 2, 2, 0, 20), 18);
        check.due("none has room", x.fixes(0, 2, 2, 0, 20), 0);
        check.due("fixes", x.count(3), 40);
    }

    private static void fixesRefusals(Check check) {
        RedTent x = new RedTent();
        check.due("no such body", x.fixes(0, 0, 0, 0, 0), BAD);
        x.body(0, 0, 0, 0, 0);
        check.due("sheet -1", x.fixes(0, -1, 0, 0, 0), BAD);
        check.due("sheet 4", x.fixes(0, 4, 0, 0, 0), BAD);
        check.due("sort -1", x.fixes(0, 0, -1, 0, 0), BAD);
        check.due("sort 3", x.fixes(0, 0, 3, 0, 0), BAD);
        check.due("n -1", x.fixes(0, 0, 0, 0, -1), BAD);
        check.due("n 21", x.fixes(0, 0, 0, 0, 21), BAD);
        check.due("missing can be taken for any", x.fixes(0, 0, 1, 0, 1), NOTHING);
        x.sheet(0, 1, 4);
        check.due("shorts taken for bytes", x.fixes(0, 0, 0, 9, 1), UNLIKE);
        check.due("shorts taken for ints", x.fixes(0, 0, 2, 9, 1), UNLIKE);
        check.due("from -1", x.fixes(0, 0, 1, -1, 1), OUTSIDE);
        check.due("from 3", x.fixes(0, 0, 1, 3, 1), OUTSIDE);
        check.due("from that wraps", x.fixes(0, 0, 1, Integer.MAX_VALUE, 20), OUTSIDE);
        check.due("nothing came", x.count(3), 0);
        check.due("two come", x.fixes(0, 0, 1, 0, 2), 2);
        check.due("two more, then outside", x.fixes(0, 0, 1, 0, 3), OUTSIDE);
        check.due("they came", x.count(3), 4);
    }
}
