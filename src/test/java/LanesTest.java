/** Promises 16 to 19. */
public final class LanesTest {
    private static final int BAD = RedTent.BAD, FULL = RedTent.FULL, STATE = RedTent.STATE, NONE = RedTent.NONE;
    private static final long NO = RedTent.NO;

    public static void main(String[] args) {
        Check check = new Check("LanesTest");
        lane(check);
        flown(check);
        share(check);
        foggy(check);
        parted(check);
        partedRefusals(check);
        check.finish();
    }

    private static void lane(Check check) {
        RedTent x = new RedTent();
        check.due("no cells", x.lane(0), BAD);
        for (int k = 0; k < 16; k++) {
            check.due("lane " + k, x.lane(k % 2 == 0 ? Long.MIN_VALUE : 1), k);
        }
        check.due("lane 16", x.lane(1), FULL);
        check.due("lane 16, BAD first", x.lane(0), BAD);
        check.due("lanes", x.count(7), 16);
    }

    private static void flown(Check check) {
        RedTent x = new RedTent();
        for (int kind = 0; kind < 6; kind++) {
            x.body(kind, 0, 0, 0, 0);
        }
        check.due("no lane", x.flown(2, 0, 0), BAD);
        x.lane(1);
        for (int kind = 0; kind < 6; kind++) {
            check.due("flown by kind " + kind, x.flown(kind, kind, 0), kind == 2 || kind == 5 ? 1 : BAD);
        }
        check.due("seeker -1", x.flown(-1, 0, 0), BAD);
        check.due("seeker 6", x.flown(6, 0, 0), BAD);
        check.due("body -1", x.flown(2, -1, 0), BAD);
        check.due("body 6", x.flown(2, 6, 0), BAD);
        check.due("lane -1", x.flown(2, 0, -1), BAD);
        check.due("lane 1", x.flown(2, 0, 1), BAD);
        for (int k = 1; k <= 6; k++) {
            check.due("flown for body 0: " + k, x.flown(2, 0, 0), k);
        }
        check.due("flown for body 0: 7", x.flown(5, 0, 0), FULL);
        check.due("BAD first", x.flown(0, 0, 0), BAD);
        check.due("another body has room", x.flown(5, 1, 0), 1);
    }

    private static void share(Check check) {
        RedTent x = new RedTent();
        check.due("no such body", x.share(0, 0, 0), NO);
        x.body(3, 27, 0, 0, 0);
        x.body(2, 0, 0, 0, 0);
        check.due("cell -1", x.share(0, -1, 0), NO);
        check.due("cell 64", x.share(0, 64, 0), NO);
        check.due("part -1", x.share(0, 0, -1), NO);
        check.due("part 2", x.share(0, 0, 2), NO);
        check.due("all of it", x.share(0, 27, 0), 1);
        check.due("by 1", x.share(0, 27, 1), 1);
        check.due("none of it", x.share(0, 0, 0), 0);
        check.due("by 1", x.share(0, 0, 1), 1);
        x.pass(1);
        check.due("1 of 9", x.share(0, 27, 0), 1);
        check.due("of 9", x.share(0, 27, 1), 9);
        x.fix(0, 1, Check.cells(27, 28, 0));
        check.due("of 2 as known now", x.share(0, 28, 1), 2);
        x.lane(Check.cells(28));
        x.flown(1, 0, 0);
        check.due("ruled out without fog", x.share(0, 28, 0), 0);
        check.due("by 1", x.share(0, 28, 1), 1);
        check.due("the other has all", x.share(0, 27, 0), 1);
        check.due("by 1", x.share(0, 27, 1), 1);
        x.lane(-1L);
        x.flown(1, 0, 1);
        check.due("all weigh nothing", x.share(0, 27, 0), 0);
        check.due("by 1", x.share(0, 27, 1), 1);
        check.due("seen nowhere else either", x.parted(0, 2, 3, -1), 0);
        check.due("of like ones the lesser lane", x.parted(0, 2, 3, 0), 0);
    }

    private static void foggy(Check check) {
        RedTent x = new RedTent();
        x.body(0, 0, 0, 0, 0);
        x.body(5, 0, 0, 0, 0);
        x.wind(0, 1, 2322);
        x.fog(1, 2, 3);
        x.fog(2, 3, 16);
        x.pass(1);
        x.lane(Check.cells(0, 5));
        for (int k = 0; k < 6; k++) {
            x.flown(1, 0, 0);
        }
        check.due("3 to the 6th", x.share(0, 0, 0), 729);
        check.due("by that and 16 to the 6th", x.share(0, 0, 1), 729 + 16777216);
        check.due("the other", x.share(0, 1, 0), 16777216);
        check.due("thousandths are cut", x.parted(0, 2, 1, -1), 0);
        x.pass(1);
        check.due("the fog of the hour in which it was flown", x.share(0, 0, 0), 729);
        x.fog(1, 2, 16);
        check.due("as told last of that hour", x.share(0, 0, 0), 1);
        check.due("by 2", x.share(0, 0, 1), 2);
        x.wind(1, 2, 3322);
        check.due("drifted since: the lane's cells stay", x.share(0, 2, 1), 2);
        x.fog(1, 2, 0);
        check.due("no cell of the lane is in the patch now", x.share(0, 2, 1), 2);
    }

    private static void parted(Check check) {
        RedTent x = new RedTent();
        x.body(3, 27, 0, 0, 0);
        x.body(2, 0, 0, 0, 0);
        x.body(5, 0, 0, 0, 0);
        x.body(2, 0, 0, 0, 0);
        x.pass(1);
        x.lane(Check.cells(18, 19, 20, 0));
        x.lane(Check.cells(18, 19, 20, 26));
        x.lane(Check.cells(26, 27));
        x.lane(Check.cells(34, 35, 36));
        x.lane(Check.cells(28));
        x.lane(Check.cells(28, 1));
        check.due("one sees 4 of 9", x.parted(0, 2, 63, -1), 444);
        check.due("lane 1", x.parted(0, 2, 63, 0), 1);
        check.due("no second", x.parted(0, 2, 63, 1), NONE);
        check.due("i -2", x.parted(0, 2, 63, -2), NONE);
        check.due("two see 7 of 9", x.parted(0, 6, 63, -1), 777);
        check.due("lanes 1", x.parted(0, 6, 63, 0), 1);
        check.due("and 3", x.parted(0, 6, 63, 1), 3);
        check.due("three see 8 of 9", x.parted(0, 14, 63, -1), 888);
        check.due("lane 0", x.parted(0, 14, 63, 0), 0);
        check.due("lane 2", x.parted(0, 14, 63, 1), 2);
        check.due("lane 3", x.parted(0, 14, 63, 2), 3);
        check.due("each counted once", x.parted(0, 6, 6, -1), 555);
        check.due("only lanes told", x.parted(0, 6, 48, -1), 111);
        check.due("lane 4", x.parted(0, 10, 48, 0), 4);
        check.due("lane 5", x.parted(0, 10, 48, 1), 5);
        check.due("no seekers: nothing", x.parted(0, 0, 63, -1), 0);
        check.due("no seekers: none such", x.parted(0, 0, 63, 0), NONE);
        check.due("neither seekers nor lanes", x.parted(0, 0, 0, -1), 0);
        x.fix(0, 1, 0);
        check.due("lost: the first lanes", x.parted(0, 14, 56, 0), 3);
        check.due("lost: the first lanes", x.parted(0, 14, 56, 1), 4);
        check.due("lost: the first lanes", x.parted(0, 14, 56, 2), 5);
    }

    private static void partedRefusals(Check check) {
        RedTent x = new RedTent();
        for (int k = 0; k < 4; k++) {
            x.body(2, 0, 0, 0, 0);
        }
        x.body(1, 0, 0, 0, 0);
        check.due("body -1", x.parted(-1, 1, 0, 0), BAD);
        check.due("body 5", x.parted(5, 1, 0, 0), BAD);
        check.due("more than 3", x.parted(4, 15, 0, 0), BAD);
        check.due("one of another kind", x.parted(4, 16, 0, 0), BAD);
        check.due("no such seeker", x.parted(4, 32, 0, 0), BAD);
        check.due("seekers below 0", x.parted(4, -1, 0, 0), BAD);
        check.due("no such lane", x.parted(4, 1, 1, 0), BAD);
        check.due("lanes below 0", x.parted(4, 1, -1, 0), BAD);
        check.due("fewer lanes", x.parted(4, 1, 0, 0), STATE);
        x.lane(1);
        check.due("fewer lanes", x.parted(4, 3, 1, 9), STATE);
        check.due("as many", x.parted(4, 1, 1, 0), 0);
        for (int k = 1; k < 16; k++) {
            x.lane(1L << k);
        }
        check.due("16 lanes", x.parted(4, 1, 65535, -1), 1000);
        check.due("a 17th", x.parted(4, 1, 65536, -1), BAD);
    }
}
