/** Promises 29 to 34. */
public final class StoriesTest {
    private static final int BAD = RedTent.BAD, FULL = RedTent.FULL, NONE = RedTent.NONE;

    public static void main(String[] args) {
        Check check = new Check("StoriesTest");
        story(check);
        unfit(check);
        clash(check);
        row(check);
        days(check);
        count(check);
        check.finish();
    }

    private static void story(Check check) {
        RedTent x = new RedTent();
        check.due("no such body", x.story(0, 0, 0), BAD);
        x.pass(3);
        x.body(0, 0, 0, 0, 0);
        x.pass(2);
        check.due("ahead of its beginning", x.story(0, 0, 2), BAD);
        check.due("above HOUR", x.story(0, 0, 6), BAD);
        check.due("cell -1", x.story(0, -1, 3), BAD);
        check.due("cell 64", x.story(0, 64, 3), BAD);
        for (int k = 0; k < 20; k++) {
            check.due("story " + k, x.story(0, 3 * k, 3 + k % 3), k);
        }
        check.due("story 20", x.story(0, 0, 3), FULL);
        check.due("story 20, BAD first", x.story(0, 0, 2), BAD);
        check.due("stories", x.count(9), 20);
        check.due("only cell 0 fits", x.unfit(), (1 << 20) - 2);
    }

    private static void unfit(Check check) {
        RedTent x = new RedTent();
        x.body(0, 27, 0, 0, 0);
        x.body(2, 5, 0, 0, 0);
        x.wind(0, 2, 2322);
        x.pass(2);
        x.story(0, 27, 0);
        x.story(0, 28, 0);
        x.story(0, 28, 1);
        x.story(0, 29, 1);
        x.story(0, 29, 2);
        x.story(1, 5, 2);
        x.story(1, 6, 2);
        check.due("those that can't be", x.unfit(), 2 + 8 + 64);
        x.fix(0, 1, Check.cells(27));
        check.due("as is known now", x.unfit(), 2 + 4 + 8 + 16 + 64);
        x.wind(1, 2, 2422);
        check.due("as the wind is told now", x.unfit(), 2 + 4 + 8 + 64);
    }

    private static void clash(Check check) {
        RedTent x = new RedTent();
        x.body(0, 27, 0, 0, 0);
        x.body(2, 5, 0, 0, 0);
        x.body(4, 5, 0, 0, 0);
        x.wind(1, 3, 2322);
        x.pass(4);
        x.story(0, 0, 1);
        x.story(0, 2, 3);
        x.story(0, 3, 3);
        x.story(0, 0, 1);
        x.story(0, 1, 1);
        x.story(0, 0, 4);
        x.story(1, 9, 0);
        x.story(1, 9, 4);
        x.story(1, 8, 4);
        check.due("story -1", x.clash(-1, 0), BAD);
        check.due("story 9", x.clash(0, 9), BAD);
        check.due("one and itself", x.clash(0, 0), BAD);
        check.due("of two bodies", x.clash(0, 6), BAD);
        check.due("drifts there", x.clash(0, 1), 0);
        check.due("told the other way round", x.clash(1, 0), 0);
        check.due("too far", x.clash(0, 2), 1);
        check.due("too far, the other way round", x.clash(2, 0), 1);
        check.due("like hours and cells", x.clash(0, 3), 0);
        check.due("like hours, another cell", x.clash(0, 4), 1);
        check.due("can't drift back", x.clash(1, 5), 1);
        check.due("can stay", x.clash(0, 5), 0);
        check.due("a seeker stays", x.clash(6, 7), 0);
        check.due("a seeker doesn't drift", x.clash(6, 8), 1);
        x.fix(0, 2, 0);
        check.due("without fixes", x.clash(0, 1), 0);
        x.wind(2, 3, 2222);
        check.due("as the wind is told now", x.clash(0, 1), 1);
        x.story(2, 27, 0);
        x.story(2, 36, 4);
        x.story(2, 27, 1);
        check.due("walkers, from hour 0 on", x.clash(9, 10), 0);
        check.due("walkers, from hour 1 on", x.clash(11, 10), 1);
    }

    private static void row(Check check) {
        RedTent x = new RedTent();
        check.due("row(-1)", x.row(-1), BAD);
        check.due("16 digits", x.row(1000000000000000L), BAD);
        check.due("row 0", x.row(999999999999999L), 0);
        check.due("row 1", x.row(0), 1);
        check.due("row 2", x.row(1), 2);
        check.due("row 3", x.row(2), 3);
        check.due("row 4", x.row(2), FULL);
        check.due("row 4, BAD first", x.row(-1), BAD);
        check.due("rows", x.count(10), 4);
    }

    private static void days(Check check) {
        RedTent x = new RedTent();
        check.due("n 0", x.days(0, 0, 0), BAD);
        check.due("n 6", x.days(6, 0, 0), BAD);
        check.due("coal -1", x.days(1, -1, 0), BAD);
        check.due("coal 100", x.days(1, 100, 0), BAD);
        check.due("without rows", x.days(5, 99, -1), 0);
        check.due("without rows, way", x.days(5, 99, 4), 0);
        check.due("day 5 of 5", x.days(5, 99, 5), NONE);
        check.due("day 1 of 1", x.days(1, 99, 1), NONE);
        check.due("i -2", x.days(1, 99, -2), NONE);
        // DAY 0: 9 5 3, DAY 1: 2 2 1, DAY 2: 0 7 0
        x.row(70122359L);
        check.due("day 0 has ways 9 5 3", x.days(1, 99, -1), 6);
        check.due("way 2", x.days(1, 99, 0), 2);
        check.due("too little coal for it", x.days(1, 3, -1), 0);
        check.due("of like ones the least", x.days(1, 3, 0), 0);
        check.due("just enough", x.days(1, 4, -1), 6);
        check.due("three days", x.days(3, 99, -1), 6 + 8 + 9);
        check.due("day 0", x.days(3, 99, 0), 2);
        check.due("day 1", x.days(3, 99, 1), 2);
        check.due("day 2: the least of like ones", x.days(3, 99, 2), 0);
        check.due("a day without coal costs nothing", x.days(3, 3, -1), 8 + 9);
        check.due("day 0: any is as good", x.days(3, 3, 0), 0);
        check.due("day 1", x.days(3, 3, 1), 2);
        check.due("coal 2: day 1 or not", x.days(2, 2, -1), 8);
        // DAY 0: 0 0 9
        x.row(900);
        check.due("the worst row", x.days(1, 99, -1), 4);
        check.due("way 1", x.days(1, 99, 0), 1);
        check.due("i = n", x.days(3, 99, 3), NONE);
        RedTent y = new RedTent();
        y.row(987654321012345L);
        check.due("digits: the lowest is DAY 0's way 0", y.days(5, 99, -1), 6 + 9 + 8 + 5 + 2);
        check.due("DAY 0", y.days(5, 99, 0), 2);
        check.due("DAY 1", y.days(5, 99, 1), 2);
        check.due("DAY 2", y.days(5, 99, 2), 0);
        check.due("DAY 3", y.days(5, 99, 3), 0);
        check.due("DAY 4", y.days(5, 99, 4), 0);
    }

    private static void count(Check check) {
        RedTent x = new RedTent();
        x.pass(9);
        x.body(2, 0, 0, 0, 0);
        x.wind(0, 1, 0);
        x.wind(0, 1, 0);
        for (int k = 0; k < 3; k++) {
            x.fix(0, 9, 1);
        }
        for (int k = 0; k < 4; k++) {
            x.hearer(k);
        }
        for (int k = 0; k < 5; k++) {
            x.call(0, 0, 0);
        }
        for (int k = 0; k < 6; k++) {
            x.part(0, 0, 0, 0);
        }
        for (int k = 0; k < 7; k++) {
            x.lane(1);
        }
        for (int k = 0; k < 8; k++) {
            x.man(0, 0, 0, 0);
        }
        for (int k = 0; k < 10; k++) {
            x.story(0, 0, 9);
        }
        x.row(1);
        Check.readText(x, "take 1;go 1;");
        Check.readText(x, "take 1;go 1;");
        x.feed(8, 0);
        x.feed(3, 0);
        x.force(2);
        x.stays(6);
        int[] due = {9, 1, 2, 3, 4, 5, 6, 7, 8, 10, 1, 3, 11, 2, 6};
        for (int what = 0; what < due.length; what++) {
            check.due("count(" + what + ")", x.count(what), due[what]);
        }
        check.due("count(-1)", x.count(-1), BAD);
        check.due("count(15)", x.count(15), BAD);
    }
}
