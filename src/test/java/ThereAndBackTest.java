/** Promises 20 to 22. */
public final class ThereAndBackTest {
    private static final int BAD = RedTent.BAD, NONE = RedTent.NONE;

    public static void main(String[] args) {
        Check check = new Check("ThereAndBackTest");
        stays(check);
        comes(check);
        last(check);
        check.finish();
    }

    private static void stays(Check check) {
        RedTent x = new RedTent();
        check.due("stays(-1)", x.stays(-1), BAD);
        check.due("stays(10)", x.stays(10), BAD);
        check.due("stays(9)", x.stays(9), 0);
        check.due("stays(0)", x.stays(0), 9);
        check.due("stays(4)", x.stays(4), 0);
        check.due("count(14)", x.count(14), 4);
    }

    private static void comes(Check check) {
        RedTent x = new RedTent();
        for (int kind = 0; kind < 6; kind++) {
            x.body(kind, 0, 0, 0, 36);
        }
        for (int kind = 0; kind < 6; kind++) {
            boolean flies = kind == 2 || kind == 5;
            check.due("kind " + kind, x.comes(kind, 0, 27, 0), flies ? 6 : BAD);
            check.due("last of kind " + kind, x.last(kind, 0, 27), flies ? 233 : BAD);
        }
        check.due("a seeker as far as 6", x.comes(2, 0, 6, 0), 12);
        check.due("not as far as 7", x.comes(2, 0, 7, 0), NONE);
        check.due("one stuck not as far as 4", x.comes(5, 0, 4, 0), NONE);
        check.due("seeker -1", x.comes(-1, 0, 0, 0), BAD);
        check.due("seeker 6", x.comes(6, 0, 0, 0), BAD);
        check.due("from -1", x.comes(2, -1, 0, 0), BAD);
        check.due("from 64", x.comes(2, 64, 0, 0), BAD);
        check.due("to -1", x.comes(2, 0, -1, 0), BAD);
        check.due("to 64", x.comes(2, 0, 64, 0), BAD);
        check.due("hour -1", x.comes(2, 0, 0, -1), BAD);
        check.due("hour 240", x.comes(2, 0, 0, 240), BAD);
        check.due("nowhere, at last", x.comes(2, 9, 9, 239), 239);
        check.due("back in 239", x.comes(2, 0, 1, 237), 239);
        check.due("not by 239", x.comes(2, 0, 1, 238), NONE);
        x.fog(20, 24, 9);
        check.due("back ahead of it", x.comes(2, 0, 2, 16), 20);
        check.due("back in it", x.comes(2, 0, 2, 17), NONE);
        x.stays(4);
        check.due("must wait 5", x.comes(2, 0, 2, 17), NONE);
        check.due("must wait 4", x.comes(2, 0, 2, 18), 26);
        x.stays(5);
        check.due("waits 5", x.comes(2, 0, 2, 17), 26);
        check.due("waits no longer than it must", x.comes(2, 0, 2, 16), 20);
        check.due("comes into it", x.comes(2, 0, 2, 19), NONE);
        check.due("leaves in it", x.comes(2, 0, 2, 23), NONE);
        check.due("leaves behind it", x.comes(2, 0, 2, 24), 28);
        check.due("where it is no fog matters", x.comes(2, 5, 5, 21), 21);
        x.fog(26, 27, 16);
        check.due("no gap that is long enough", x.comes(2, 0, 3, 17), NONE);
        check.due("a gap that is", x.comes(2, 0, 2, 18), 26);
        x.fog(237, 240, 9);
        check.due("waits too long", x.comes(2, 0, 1, 236), NONE);
        check.due("back in time", x.comes(2, 0, 1, 235), 237);
    }

    private static void last(Check check) {
        RedTent x = new RedTent();
        x.body(2, 0, 0, 0, 12);
        check.due("from -1", x.last(0, -1, 0), BAD);
        check.due("to 64", x.last(0, 0, 64), BAD);
        check.due("seeker 1", x.last(1, 0, 0), BAD);
        check.due("nowhere", x.last(0, 3, 3), 239);
        check.due("one cell", x.last(0, 3, 4), 237);
        check.due("two cells", x.last(0, 63, 45), 235);
        check.due("too far", x.last(0, 0, 3), NONE);
        x.fog(100, 240, 9);
        check.due("ahead of the fog", x.last(0, 0, 2), 96);
        x.stays(9);
        check.due("fog is too long to wait", x.last(0, 0, 2), 96);
        x.fog(109, 111, 0);
        check.due("waits 9", x.last(0, 0, 2), 98);
        x.fog(0, 240, 16);
        x.fog(0, 4, 0);
        check.due("from hour 0 alone", x.last(0, 0, 2), 0);
        x.fog(0, 4, 9);
        check.due("never", x.last(0, 0, 2), NONE);
        check.due("but nowhere", x.last(0, 2, 2), 239);
    }
}
