/** Promises 9 to 15. */
public final class CallsTest {
    private static final int BAD = RedTent.BAD, FULL = RedTent.FULL;

    public static void main(String[] args) {
        Check check = new Check("CallsTest");
        hearer(check);
        wave(check);
        call(check);
        canHear(check);
        parts(check);
        check.finish();
    }

    private static void hearer(Check check) {
        RedTent x = new RedTent();
        check.due("cell -1", x.hearer(-1), BAD);
        check.due("cell 64", x.hearer(64), BAD);
        for (int k = 0; k < 6; k++) {
            check.due("hearer " + k, x.hearer(63 * (k % 2)), k);
        }
        check.due("hearer 6", x.hearer(0), FULL);
        check.due("hearer 6, BAD first", x.hearer(64), BAD);
        check.due("hearers", x.count(4), 6);
    }

    private static void wave(Check check) {
        RedTent x = new RedTent();
        check.due("wave -1", x.wave(-1, 0, 0, 0), BAD);
        check.due("wave 4", x.wave(4, 0, 0, 0), BAD);
        check.due("night -1", x.wave(0, -1, 0, 0), BAD);
        check.due("night 2", x.wave(0, 2, 0, 0), BAD);
        check.due("from -1", x.wave(0, 0, -1, 0), BAD);
        check.due("from 10", x.wave(0, 0, 10, 10), BAD);
        check.due("to 10", x.wave(0, 0, 0, 10), BAD);
        check.due("to below from", x.wave(0, 0, 2, 1), BAD);
        for (int wave = 0; wave < 4; wave++) {
            for (int night = 0; night < 2; night++) {
                check.due("at first", x.wave(wave, night, wave, 8 + night), 0);
            }
        }
        for (int wave = 0; wave < 4; wave++) {
            for (int night = 0; night < 2; night++) {
                check.due("as told", x.wave(wave, night, 9, 9), 10 * wave + 8 + night);
                check.due("as told again", x.wave(wave, night, 0, 9), 99);
            }
        }
    }

    private static void call(Check check) {
        RedTent x = new RedTent();
        check.due("no such body", x.call(0, 0, 0), BAD);
        x.body(0, 0, 0, 0, 0);
        check.due("wave -1", x.call(0, -1, 0), BAD);
        check.due("wave 4", x.call(0, 4, 0), BAD);
        for (int k = 0; k < 20; k++) {
            check.due("call " + k, x.call(0, k % 4, Long.MIN_VALUE + k), k);
        }
        check.due("call 20", x.call(0, 0, 0), FULL);
        check.due("call 20, BAD first", x.call(1, 0, 0), BAD);
        check.due("calls", x.count(5), 20);
    }

    private static void canHear(Check check) {
        RedTent x = new RedTent();
        x.body(0, 0, 0, 0, 0);
        for (int cell : new int[] {0, 1, 16, 27, 63}) {
            x.hearer(cell);
        }
        for (int wave = 0; wave < 4; wave++) {
            x.wave(wave, 0, wave, wave + 1);
            x.wave(wave, 1, 7, 9);
        }
        check.due("no such call", x.canHear(0, 0), BAD);
        int[] hours = {0, 5, 6, 17, 18, 23, 24, 29, 30, 41, 42};
        int call = 0;
        for (int hour : hours) {
            if (hour > x.count(0)) {
                x.pass(hour - x.count(0));
            }
            x.call(0, 1, 0);
            boolean night = hour % 24 < 6 || hour % 24 > 17;
            check.due("in hour " + hour, x.canHear(call, 0), night ? 16 : 6);
            call++;
        }
        check.due("call -1", x.canHear(-1, 0), BAD);
        check.due("known -1", x.canHear(0, -1), BAD);
        check.due("known above HOUR", x.canHear(0, 43), BAD);
        check.due("the wave as it is told now", x.wave(1, 1, 3, 3), 79);
        check.due("hour 0 by night", x.canHear(0, 0), 8);
        RedTent y = new RedTent();
        y.body(0, 27, 0, 0, 0);
        y.hearer(27);
        y.hearer(29);
        y.wind(0, 1, 2422);
        y.wave(0, 1, 0, 0);
        y.pass(1);
        y.call(0, 0, 0);
        check.due("any cell of the patch", y.canHear(0, 1), 3);
        y.pass(1);
        y.fix(0, 1, 1L << 29);
        check.due("as known in 1", y.canHear(0, 1), 3);
        check.due("as known in 2", y.canHear(0, 2), 2);
        y.fix(0, 0, 0);
        check.due("lost: nobody", y.canHear(0, 2), 0);
    }

    private static void parts(Check check) {
        RedTent x = new RedTent();
        x.body(0, 0, 0, 0, 0);
        check.due("no hearer", x.part(0, 0, 1, 0), BAD);
        x.hearer(0);
        check.due("no call", x.part(0, 0, 1, 0), BAD);
        x.call(0, 0, 0xFEDCBA9876543210L);
        x.call(0, 0, 7);
        check.due("heard -1", x.part(0, 0, -1, 0), BAD);
        check.due("heard 65536", x.part(0, 0, 65536, 0), BAD);
        check.due("part -1", x.isTrue(-1), BAD);
        check.due("no part yet", x.isTrue(0), BAD);
        check.due("all heard", x.part(0, 0, 65535, 0xFEDCBA9876543210L), 1);
        for (int k = 0; k < 16; k++) {
            check.due("word " + k, x.word(0, k), k);
            check.due("word " + k + " of the other call", x.word(1, k), -1);
        }
        check.due("word -1", x.word(0, -1), -3);
        check.due("word 16", x.word(0, 16), -3);
        check.due("call -1", x.word(-1, 0), -3);
        check.due("call 2", x.word(2, 0), -3);
        check.due("true", x.isTrue(0), 1);
        check.due("words not heard don't matter", x.part(0, 1, 1, -9), 2);
        check.due("word 0", x.word(1, 0), 7);
        check.due("true", x.isTrue(1), 1);
        check.due("highest word unlike", x.part(0, 0, 32768, 0), 3);
        check.due("word 15 unlike", x.word(0, 15), -2);
        check.due("word 14 sure", x.word(0, 14), 14);
        check.due("untrue", x.isTrue(2), 0);
        check.due("nothing heard", x.part(0, 0, 0, 5), 4);
        check.due("nothing heard is true", x.isTrue(3), 1);
        check.due("alike but not as sent", x.part(0, 1, 2, 0x30), 5);
        x.part(0, 1, 2, 0x30);
        check.due("sure", x.word(1, 1), 3);
        check.due("untrue", x.isTrue(4), 0);
        for (int k = 7; k <= 40; k++) {
            check.due("part " + k, x.part(0, 0, 0, 0), k);
        }
        check.due("part 41", x.part(0, 0, 0, 0), FULL);
        check.due("part 41, BAD first", x.part(1, 0, 0, 0), BAD);
        check.due("parts", x.count(6), 40);
        check.due("part 40 is none such", x.isTrue(40), BAD);
    }
}
