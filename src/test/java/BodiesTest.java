/** Promises 5 to 8 and 39. */
public final class BodiesTest {
    private static final int BAD = RedTent.BAD, FULL = RedTent.FULL;
    private static final long NO = RedTent.NO;

    public static void main(String[] args) {
        Check check = new Check("BodiesTest");
        body(check);
        bodyTold(check);
        drifts(check);
        patch(check);
        fix(check);
        taken(check);
        check.finish();
    }

    private static void body(Check check) {
        RedTent x = new RedTent();
        check.due("kind -1", x.body(-1, 0, 0, 0, 0), BAD);
        check.due("kind 6", x.body(6, 0, 0, 0, 0), BAD);
        check.due("cell -1", x.body(0, -1, 0, 0, 0), BAD);
        check.due("cell 64", x.body(0, 64, 0, 0, 0), BAD);
        check.due("men -1", x.body(0, 0, -1, 0, 0), BAD);
        check.due("men 21", x.body(0, 0, 21, 0, 0), BAD);
        check.due("food -1", x.body(0, 0, 0, -1, 0), BAD);
        check.due("food 10000", x.body(0, 0, 0, 10000, 0), BAD);
        check.due("fuel -1", x.body(0, 0, 0, 0, -1), BAD);
        check.due("fuel 1000", x.body(0, 0, 0, 0, 1000), BAD);
        check.due("bodies", x.count(1), 0);
        for (int k = 0; k < 12; k++) {
            check.due("body " + k, x.body(k % 6, 63, 20, 9999, 999), k);
        }
        check.due("body 12", x.body(0, 0, 0, 0, 0), FULL);
        check.due("body 12, BAD first", x.body(0, 0, 0, 0, 1000), BAD);
        check.due("bodies", x.count(1), 12);
    }

    private static void bodyTold(Check check) {
        RedTent x = new RedTent();
        x.pass(7);
        int[][] due = {
            {0, 10, 7, 5, 100, 40, 0, 1, 9999},
            {1, 11, 7, 5, 100, 41, 5, 1, 27},
            {2, 12, 7, 5, 100, 42, 0, 3, 9999},
            {3, 13, 7, 5, 100, 43, 6, 1, 23},
            {4, 14, 7, 5, 100, 44, 10, 1, 17},
            {5, 15, 7, 5, 100, 45, 1, 6, 107},
        };
        for (int kind = 0; kind < 6; kind++) {
            x.body(kind, 10 + kind, 5, 100, 40 + kind);
            for (int what = 0; what <= 8; what++) {
                check.due("bodyTold(" + kind + ", " + what + ")", x.bodyTold(kind, what), due[kind][what]);
            }
        }
        check.due("what -1", x.bodyTold(0, -1), BAD);
        check.due("what 9", x.bodyTold(0, 9), BAD);
        check.due("body -1", x.bodyTold(-1, 0), BAD);
        check.due("body 6", x.bodyTold(6, 0), BAD);
        x.pass(3);
        int[] left = {100, 85, 100, 82, 70, 97};
        for (int kind = 0; kind < 6; kind++) {
            check.due("food of " + kind, x.bodyTold(kind, 4), left[kind]);
            check.due("food lasts as long for " + kind, x.bodyTold(kind, 8), due[kind][8]);
        }
        x.body(1, 0, 0, 50, 0);
        check.due("a party of none eats nothing", x.bodyTold(6, 8), 9999);
        x.body(3, 0, 0, 0, 0);
        check.due("a floe of none eats 1", x.bodyTold(7, 6), 1);
        check.due("no food lasts to now", x.bodyTold(7, 8), 10);
        x.body(1, 0, 1, 9999, 0);
        check.due("food for longer than all hours", x.bodyTold(8, 8), 10009);
    }

    private static void drifts(Check check) {
        RedTent x = new RedTent();
        for (int kind = 0; kind < 6; kind++) {
            x.body(kind, 27, 0, 0, 0);
        }
        x.wind(0, 2, 2333);
        long blown = Check.cells(35, 36);
        long wide = Check.cells(26, 27, 28, 29, 34, 35, 36, 37, 42, 43, 44, 45);
        long[] due = {blown, blown, 1L << 27, wide, wide, blown};
        for (int kind = 0; kind < 6; kind++) {
            check.due("hour 1 of kind " + kind, x.patch(kind, 1, 0), due[kind]);
        }
        long twice = Check.cells(43, 44, 45);
        check.due("body, hour 2", x.patch(0, 2, 0), twice);
        check.due("walkers in an hour that 4 does not divide", x.patch(4, 2, 0),
            Check.cells(34, 35, 36, 37, 38, 42, 43, 44, 45, 46, 50, 51, 52, 53, 54));
        x.wind(2, 240, 2222);
        check.due("walkers till hour 4", x.patch(4, 4, 0), x.patch(4, 2, 0));
        check.due("walkers behind hour 4", x.patch(4, 5, 0),
            Check.cells(25, 26, 27, 28, 29, 30, 31, 33, 34, 35, 36, 37, 38, 39, 41, 42, 43, 44, 45, 46, 47,
                49, 50, 51, 52, 53, 54, 55, 57, 58, 59, 60, 61, 62, 63));
        check.due("a floe fills the ice in calm", x.patch(3, 20, 0), -1L);
        RedTent y = new RedTent();
        y.body(0, 0, 0, 0, 0);
        y.body(0, 63, 0, 0, 0);
        y.body(0, 7, 0, 0, 0);
        y.wind(0, 1, 404);
        check.due("corner 0, -2 .. 2 each", y.patch(0, 1, 0), Check.cells(0, 1, 2, 8, 9, 10, 16, 17, 18));
        check.due("corner 63", y.patch(1, 1, 0), Check.cells(45, 46, 47, 53, 54, 55, 61, 62, 63));
        check.due("no way around the edge", y.patch(2, 1, 0), Check.cells(5, 6, 7, 13, 14, 15, 21, 22, 23));
    }

    private static void patch(Check check) {
        RedTent x = new RedTent();
        check.due("no such body", x.patch(0, 0, 0), NO);
        x.pass(5);
        x.body(0, 9, 0, 0, 0);
        x.wind(5, 6, 3322);
        check.due("body -1", x.patch(-1, 5, 5), NO);
        check.due("ahead of its beginning", x.patch(0, 4, 5), NO);
        check.due("its beginning", x.patch(0, 5, 5), 1L << 9);
        check.due("hour 239", x.patch(0, 239, 5), 1L << 10);
        check.due("hour 240", x.patch(0, 240, 5), NO);
        check.due("known below 0", x.patch(0, 5, -1), NO);
        check.due("known 0", x.patch(0, 6, 0), 1L << 10);
        check.due("known above HOUR", x.patch(0, 5, 6), NO);
    }

    private static void fix(Check check) {
        RedTent x = new RedTent();
        check.due("no such body", x.fix(0, 0, 1), BAD);
        x.pass(2);
        x.body(0, 27, 0, 0, 0);
        x.body(0, 27, 0, 0, 0);
        x.wind(2, 5, 1313);
        check.due("ahead of its beginning", x.fix(0, 1, -1L), BAD);
        check.due("above HOUR", x.fix(0, 3, -1L), BAD);
        x.pass(4);
        check.due("a fix behind another hour", x.fix(0, 4, Check.cells(9, 10, 0)), 1);
        check.due("narrowed", x.patch(0, 4, 6), Check.cells(9, 10));
        check.due("not known ahead", x.patch(0, 3, 6), Check.cells(18, 19, 20, 26, 27, 28, 34, 35, 36));
        check.due("all behind it", x.patch(0, 5, 6), Check.cells(0, 1, 2, 3, 8, 9, 10, 11, 16, 17, 18, 19));
        check.due("not known in 5", x.patch(0, 4, 5) & ~Check.cells(9, 10), x.patch(1, 4, 5) & ~Check.cells(9, 10));
        x.pass(1);
        check.due("one of hour 3", x.fix(0, 3, Check.cells(18)), 2);
        check.due("both", x.patch(0, 5, 7), Check.cells(0, 1, 2, 3, 8, 9, 10, 11, 16, 17, 18, 19));
        check.due("again in 3: both have none", x.fix(0, 3, Check.cells(19)), 3);
        check.due("lost", x.patch(0, 5, 7), 0);
        check.due("but not as known in 6", x.patch(0, 4, 6), Check.cells(9, 10));
        check.due("fix of another body", x.fix(1, 2, ~Check.cells(27)), 4);
        check.due("lost from its beginning on", x.patch(1, 2, 7), 0);
        for (int k = 5; k <= 40; k++) {
            check.due("fix " + k, x.fix(1, 7, -1L), k);
        }
        check.due("fix 41", x.fix(0, 7, -1L), FULL);
        check.due("fix 41, BAD first", x.fix(2, 7, -1L), BAD);
        check.due("fixes", x.count(3), 40);
        check.due("wind told later moves what is fixed", x.wind(2, 3, 2222), 2);
        check.due("body 1 as known in 6", x.patch(1, 3, 6), 1L << 27);
    }

    private static void taken(Check check) {
        RedTent x = new RedTent();
        check.due("k -1 first", x.taken(0, -1), BAD);
        check.due("k 6 first", x.taken(0, 6), BAD);
        check.due("no such body", x.taken(0, 0), -11);
        check.due("body -1", x.taken(-1, 0), -11);
        for (int kind = 0; kind < 6; kind++) {
            x.body(kind, 0, kind + 10, 0, 0);
        }
        String[] under = {"0", "01", "02", "013", "014", "025"};
        for (int kind = 0; kind < 6; kind++) {
            for (int k = 0; k < 6; k++) {
                boolean is = under[kind].indexOf('0' + k) >= 0;
                check.due("taken(" + kind + ", " + k + ")", x.taken(kind, k), is ? kind + 10 : -13);
            }
        }
    }
}
