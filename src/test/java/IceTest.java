/** Promises 1 to 4, and what winds, fog and hours do to others. */
public final class IceTest {
    private static final int BAD = RedTent.BAD, FULL = RedTent.FULL;

    public static void main(String[] args) {
        Check check = new Check("IceTest");
        newObject(check);
        pass(check);
        wind(check);
        fog(check);
        check.finish();
    }

    private static void newObject(Check check) {
        RedTent x = new RedTent();
        for (int what = 0; what <= 14; what++) {
            check.due("count(" + what + ") of a new object", x.count(what), what == 11 ? 1 : 0);
        }
        check.due("bodyTold(0, 0) of a new object", x.bodyTold(0, 0), BAD);
        check.due("unfit() of a new object", x.unfit(), 0);
        check.due("sheet 0 is missing at first", x.cell(0, 0, 0), -11);
        check.due("wave 3 at first", x.wave(3, 1, 1, 1), 0);
    }

    private static void pass(Check check) {
        RedTent x = new RedTent();
        check.due("pass(0)", x.pass(0), BAD);
        check.due("pass(-1)", x.pass(-1), BAD);
        check.due("pass(49)", x.pass(49), BAD);
        check.due("body", x.body(1, 0, 3, 10, 0), 0);
        check.due("pass(48)", x.pass(48), 48);
        check.due("food is 0 at least", x.bodyTold(0, 4), 0);
        check.due("pass(48)", x.pass(48), 96);
        check.due("pass(48)", x.pass(48), 144);
        check.due("pass(48)", x.pass(48), 192);
        check.due("pass(48) above 239", x.pass(48), FULL);
        check.due("pass(49) is BAD first", x.pass(49), BAD);
        check.due("hour stays", x.count(0), 192);
        check.due("body that eats 2", x.body(4, 0, 1, 100, 0), 1);
        check.due("pass(47)", x.pass(47), 239);
        check.due("food eaten", x.bodyTold(1, 4), 6);
        check.due("pass(1) above 239", x.pass(1), FULL);
        check.due("refused pass eats nothing", x.bodyTold(1, 4), 6);
    }

    private static void wind(Check check) {
        RedTent x = new RedTent();
        check.due("from below 0", x.wind(-1, 5, 2222), BAD);
        check.due("to above 240", x.wind(0, 241, 2222), BAD);
        check.due("to not above from", x.wind(3, 3, 2222), BAD);
        check.due("to below from", x.wind(4, 3, 2222), BAD);
        check.due("by below 0", x.wind(0, 1, -1), BAD);
        check.due("by with five digits", x.wind(0, 1, 12222), BAD);
        check.due("digit a of 5", x.wind(0, 1, 5522), BAD);
        check.due("digit b of 5", x.wind(0, 1, 2522), BAD);
        check.due("digit c of 5", x.wind(0, 1, 2255), BAD);
        check.due("digit d of 5", x.wind(0, 1, 2225), BAD);
        check.due("a above b", x.wind(0, 1, 2122), BAD);
        check.due("c above d", x.wind(0, 1, 2221), BAD);
        check.due("none came", x.count(2), 0);
        check.due("the whole time", x.wind(0, 240, 2222), 1);
        check.due("by 0", x.wind(239, 240, 0), 2);
        x.body(0, 27, 0, 0, 0);
        check.due("calm", x.patch(0, 239, 0), 1L << 27);
        check.due("one hour", x.wind(5, 6, 4400), 3);
        check.due("ahead of it", x.patch(0, 5, 0), 1L << 27);
        check.due("behind it", x.patch(0, 6, 0), 1L << 13);
        check.due("later told counts", x.wind(0, 9, 2222), 4);
        check.due("overtold", x.patch(0, 6, 0), 1L << 27);
        check.due("off the ice", x.wind(1, 4, 3344), 5);
        check.due("last on the ice", x.patch(0, 3, 0), 1L << 61);
        check.due("out of it", x.patch(0, 4, 0), 0);
        for (int k = 6; k <= 30; k++) {
            check.due("wind " + k, x.wind(200, 201, 2222), k);
        }
        check.due("wind 31", x.wind(200, 201, 2222), FULL);
        check.due("wind 31, BAD first", x.wind(200, 200, 2222), BAD);
        check.due("winds", x.count(2), 30);
    }

    private static void fog(Check check) {
        RedTent x = new RedTent();
        check.due("from below 0", x.fog(-1, 5, 2), BAD);
        check.due("to above 240", x.fog(0, 241, 2), BAD);
        check.due("to not above from", x.fog(3, 3, 2), BAD);
        check.due("fog below 0", x.fog(0, 1, -1), BAD);
        check.due("fog above 16", x.fog(0, 1, 17), BAD);
        x.body(2, 0, 0, 0, 999);
        check.due("fog", x.fog(3, 5, 16), 1);
        check.due("flies ahead of it", x.comes(0, 0, 1, 1), 3);
        check.due("flies into it", x.comes(0, 0, 1, 2), RedTent.NONE);
        check.due("flies behind it", x.comes(0, 0, 1, 5), 7);
        check.due("later told counts", x.fog(4, 5, 8), 2);
        check.due("8 is not above 8", x.comes(0, 0, 1, 4), 6);
        for (int k = 3; k <= 30; k++) {
            check.due("fog " + k, x.fog(239, 240, 0), k);
        }
        check.due("fog 31", x.fog(0, 1, 0), FULL);
        check.due("fog 31, BAD first", x.fog(0, 1, 17), BAD);
        check.due("fog 31 came not", x.comes(0, 0, 1, 1), 3);
    }
}
