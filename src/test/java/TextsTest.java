/** Promises 23 to 28. */
public final class TextsTest {
    private static final int BAD = RedTent.BAD, FULL = RedTent.FULL, NONE = RedTent.NONE;
    private static final long NO = RedTent.NO;

    public static void main(String[] args) {
        Check check = new Check("TextsTest");
        man(check);
        feed(check);
        text(check);
        faults(check);
        values(check);
        force(check);
        says(check);
        first(check);
        check.finish();
    }

    private static void man(Check check) {
        RedTent x = new RedTent();
        check.due("no such body", x.man(0, 0, 0, 0), BAD);
        x.body(0, 0, 0, 0, 0);
        check.due("strength -1", x.man(0, -1, 0, 0), BAD);
        check.due("strength 100", x.man(0, 100, 0, 0), BAD);
        check.due("hurt -1", x.man(0, 0, -1, 0), BAD);
        check.due("hurt 100", x.man(0, 0, 100, 0), BAD);
        check.due("skill -1", x.man(0, 0, 0, -1), BAD);
        check.due("skill 100", x.man(0, 0, 0, 100), BAD);
        for (int k = 0; k < 16; k++) {
            check.due("man " + k, x.man(0, 99, 99, 99), k);
        }
        check.due("man 16", x.man(0, 0, 0, 0), FULL);
        check.due("man 16, BAD first", x.man(1, 0, 0, 0), BAD);
        check.due("men", x.count(8), 16);
        check.due("men told with the body", x.bodyTold(0, 3), 0);
    }

    private static void feed(Check check) {
        RedTent x = new RedTent();
        check.due("feed 0", x.feed(0, 0), BAD);
        check.due("feed -1", x.feed(-1, 0), BAD);
        check.due("feed 9", x.feed(9, 0), BAD);
        check.due("feed 1", x.feed(1, 32), 1);
        for (int k = 1; k < 20; k++) {
            check.due("feed 8", x.feed(8, 0x2020202020202020L), 1 + 8 * k);
        }
        check.due("no room for 8", x.feed(8, 0), FULL);
        check.due("feed 9, BAD first", x.feed(9, 0), BAD);
        check.due("room for 7", x.feed(7, 0x0A0A0A0A0A0A0A0AL), 160);
        check.due("no room for 1", x.feed(1, 0), FULL);
        check.due("bytes", x.count(12), 160);
        check.due("only blanks", x.text(), -260);
        check.due("empty then", x.count(12), 0);
        x.feed(8, 0x6F67206B6174L | 0x65L << 48);
        check.due("lowest first: tak go", x.text(), -100);
    }

    private static void text(Check check) {
        RedTent x = new RedTent();
        check.due("an empty tape", x.text(), -100);
        for (int k = 1; k < 6; k++) {
            check.due("text " + k, Check.readText(x, "take " + k + ";go 0;"), k);
            check.due("texts", x.count(11), k + 1);
            check.due("the tape is empty", x.count(12), 0);
        }
        Check.feedAll(x, "take 1");
        check.due("no room, a fault or not", x.text(), FULL);
        check.due("the tape stays", x.count(12), 6);
        check.due("it goes on", x.feed(1, ';'), 7);
        RedTent y = new RedTent();
        check.due("a fault", Check.readText(y, "take 1;go ;"), -110);
        check.due("the tape is empty", y.count(12), 0);
        check.due("no text more", y.count(11), 1);
    }

    private static void faults(Check check) {
        String[] texts = {
            "", "   ", "take", "take ", "take 1", "take 1 ;", "take 1 ; go", "take 1 ; go 2", "take 1;go 2; ;",
            "take 1;go 2;\n x", "go 1;take 2;", "takes 1;go 2;", "take1;go2;", "take go;", "take 12345;go 1;",
            "take 9999;go 00001;", "take Hurt;go 1;", "take hurts;go 1;", "take 1 2;go 1;", "take 1 hurt;go 1;",
            "take 1<2<3;go 1;", "take 1=2=3;go 1;", "take 1<not 2;go 1;", "take 1+not 2;go 1;", "take -not 2;go 1;",
            "take not;go 1;", "take ();go 1;", "take (1;go 1;", "take 1);go 1;", "take 1*;go 1;", "take *1;go 1;",
            "take +1;go 1;", "take 1,2;go 1;", "take 1 or;go 1;", "take or 1;go 1;", "take 1 and and 1;go 1;",
            "take ((((((1))))));go 1;", "take not not not not not not 1;go 1;", "take ------1;go 1;",
            "take (((((-1)))));go 1;", "take not(not(not(1)));go 1;", "take 1 not;go 1;", "take 1\t;go 1;",
            "take 1;go ((((( 1 + (2)))));", "take 1;go 1;take 1;", "take " + (char) 200 + ";go 1;", "take 1:go 1;",
        };
        int[] due = {
            0, 3, 4, 5, 6, 8, 11, 13, 13,
            14, 0, 0, -1, 5, 5,
            13, 5, 5, 7, 7,
            8, 8, 7, 7, 6,
            8, 6, 7, 6, 7, 5,
            5, 6, 9, 5, 11,
            10, 25, 10,
            10, 16, 7, 6,
            20, 12, 5, 6,
        };
        check.due("as many", due.length, texts.length);
        RedTent x = new RedTent();
        for (int k = 0; k < texts.length; k++) {
            int got = Check.readText(x, texts[k]);
            check.due("text '" + texts[k] + "'", got < 0 ? -100 - got : -1, due[k]);
        }
    }

    private static void values(Check check) {
        String[] texts = {
            "7", "strength", "hurt", "skill", "hour", "fuel", "far", "-7", "--7", "2+3*4", "(2+3)*4", "9-2-3",
            "9999*9999*9999", "1<2", "2<2", "2=2", "2=3", "-1<0", "not 0", "not 7", "not 1<0", "not not 5",
            "0 or 0", "0 or 5", "5 and 3", "5 and 0", "1 or 0 and 0", "(1 or 0) and 0", "not 0 and 0",
            "(((((7)))))", "not not not not not 0", "-----1", "(((((1)))))+(((((2)))))", "not 0 and not 0 and not 0",
            "-1--1--1", "2*-3", "1<2=0 or 1", "hurt<strength and skill=3", "0007", "-strength*-hurt",
            "not not(-(1))and----1<(0)",
        };
        long[] due = {
            7, 50, 20, 3, 4, 77, 0, -7, 7, 14, 20, 4,
            (long) (9999 * 9999 * 9999), 1, 0, 1, 0, 1, 1, 0, 1, 1,
            0, 1, 1, 0, 1, 0, 0,
            7, 1, -1, 3, 1,
            1, -6, -1, 1, 7, 1000,
            0,
        };
        check.due("as many", due.length, texts.length);
        for (int k = 0; k < texts.length; k++) {
            RedTent x = new RedTent();
            x.body(0, 0, 0, 0, 77);
            x.man(0, 50, 20, 3);
            x.pass(4);
            int text = Check.readText(x, "take " + texts[k] + ";\ngo 0;\n");
            if (texts[k].equals("1<2=0 or 1")) {
                check.due("text '" + texts[k] + "'", text, -108);
                continue;
            }
            check.due("text '" + texts[k] + "'", text, 1);
            x.force(text);
            check.due("take " + texts[k], x.says(0, 0, 0), due[k]);
        }
    }

    private static void force(Check check) {
        RedTent x = new RedTent();
        check.due("force(-1)", x.force(-1), BAD);
        check.due("force(1)", x.force(1), BAD);
        check.due("force(0)", x.force(0), 0);
        Check.readText(x, "take 5; go 6;");
        Check.readText(x, "take 7; go 8;");
        check.due("still text 0", x.count(13), 0);
        check.due("force(2)", x.force(2), 0);
        check.due("the order", x.count(13), 2);
        check.due("force(1)", x.force(1), 2);
        check.due("force(3)", x.force(3), BAD);
        check.due("force(0)", x.force(0), 1);
    }

    private static void says(Check check) {
        RedTent x = new RedTent();
        check.due("no man", x.says(0, 0, 0), NO);
        check.due("no seeker", x.says(1, 0, 0), NO);
        x.body(2, 0, 0, 0, 42);
        x.body(0, 63, 0, 0, 5);
        x.body(5, 0, 0, 0, 43);
        x.man(1, 9, 8, 7);
        check.due("part -1", x.says(-1, 0, 0), NO);
        check.due("part 2", x.says(2, 0, 0), NO);
        check.due("man -1", x.says(0, -1, 0), NO);
        check.due("man 1", x.says(0, 1, 0), NO);
        check.due("b does not matter", x.says(0, 0, -99), 7);
        check.due("7 * 6 < 42", x.says(1, 0, 1), 0);
        check.due("7 * 6 < 43", x.says(1, 2, 1), 1);
        check.due("seeker of another kind", x.says(1, 1, 0), NO);
        check.due("body -1", x.says(1, 0, -1), NO);
        check.due("body 3", x.says(1, 0, 3), NO);
        x.force(Check.readText(x, "take fuel*100+far; go far*100+hour*10+fuel+strength+hurt+skill;"));
        check.due("take fuel", x.says(0, 0, 0), 500);
        x.wind(0, 1, 1212);
        x.pass(1);
        check.due("the nearest of the patch", x.says(1, 0, 1), 652);
        x.fix(1, 1, Check.cells(63));
        check.due("as known now", x.says(1, 0, 1), 752);
        check.due("its own cell, where it began", x.says(1, 2, 1), 753);
        check.due("a stuck one sought", x.says(1, 0, 2), 52);
        x.fix(1, 1, 0);
        check.due("99, if it is lost", x.says(1, 0, 1), 9952);
    }

    private static void first(Check check) {
        RedTent x = new RedTent();
        check.due("no such body", x.first(0, 0), BAD);
        x.body(0, 0, 0, 0, 0);
        x.body(1, 0, 0, 0, 0);
        check.due("no men", x.first(0, 0), NONE);
        int[] strengths = {10, 30, 10, 50, 30};
        for (int strength : strengths) {
            x.man(0, strength, 0, 0);
            x.man(1, 0, strength, 0);
        }
        int[] due = {0, 4, 2, 8, 6};
        for (int i = 0; i < 5; i++) {
            check.due("first(0, " + i + ")", x.first(0, i), due[i]);
        }
        int[] other = {7, 3, 9, 1, 5};
        for (int i = 0; i < 5; i++) {
            check.due("first(1, " + i + ")", x.first(1, i), other[i]);
        }
        check.due("first(0, 5)", x.first(0, 5), NONE);
        check.due("first(0, -1)", x.first(0, -1), NONE);
        check.due("first(-1, 0)", x.first(-1, 0), BAD);
        check.due("first(2, 0)", x.first(2, 0), BAD);
        x.force(Check.readText(x, "take strength; go 0;"));
        check.due("by the order in force", x.first(0, 0), 6);
    }
}
