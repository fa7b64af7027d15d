/** Edges of men, the tape, texts and orders: the rest of the terms' fifth part ahead of stories, promises 23 to 28. */
final class TextEdges {
    private static final int MIN_INT = Integer.MIN_VALUE;
    private final Edges e;

    TextEdges(Edges e) {
        this.e = e;
    }

    void all() {
        men();
        tape();
        tokens();
        grammar();
        names();
        values();
        faults();
        openOnes();
        texts();
        takeAndGo();
        firstAndFood();
        man();
        feed();
        text();
        force();
        says();
        first();
    }

    /** A take of E that is read without fault, and what it comes to for a man of 50, 20, 3 in hour 4 with fuel 77. */
    private void comesTo(String expression, long due) {
        e.run("body 0 0 0 0 77", "man 0 50 20 3", "pass 4", "reads 'take " + expression + ";go 0;' -> 1", "force 1", "says 0 0 0 -> " + due);
    }

    private void fault(String tape, int place) {
        e.run("reads '" + tape + "' -> " + (-100 - place), "count 12 -> 0", "count 11 -> 1");
    }

    private void fine(String tape) {
        e.run("reads '" + tape + "' -> 1", "count 12 -> 0", "count 11 -> 2");
    }

    private void men() {
        e.of(0, "MEN (16 at most, numbered from 0) are of a BODY, have a STRENGTH, a HURT, a SKILL (0 .. 99 each).",
            "body 0 0 0 0 0", "man 0 -1 0 0 -> BAD", "man 0 0 0 0 -> 0", "man 0 99 0 0 -> 1", "man 0 100 0 0 -> BAD", "man 0 0 -1 0 -> BAD", "man 0 0 99 0 -> 2",
            "man 0 0 100 0 -> BAD", "man 0 0 0 -1 -> BAD", "man 0 0 0 99 -> 3", "man 0 0 0 100 -> BAD", "12 x man 0 1 1 1 -> 4..", "man 0 1 1 1 -> FULL", "count 8 -> 16",
            "reads 'take strength*2+hurt*3+skill*5;go 0;' -> 1", "force 1", "says 0 0 0 -> 0", "says 0 1 0 -> 198", "says 0 2 0 -> 297", "says 0 3 0 -> 495", "says 0 15 0 -> 10");
    }

    private void tape() {
        String full = "take" + " ".repeat(145) + "12;go 3 \n;";
        e.of(0, "A TEXT is read from THE TAPE (160 bytes at most).",
            "feeds '" + full + "' -> 159", "feed 2 0x2020 -> FULL", "feed 1 32 -> 160", "feed 1 32 -> FULL", "feed 8 0 -> FULL", "text -> 1", "count 12 -> 0", "force 1",
            "body 0 0 0 0 0", "man 0 0 0 0", "says 0 0 0 -> 12");
        e.run("feeds '" + full + "' -> 159", "feed 1 59 -> 160", "text -> -259", "count 12 -> 0");
        for (String sign : new String[] {";", "(", "?", "z", "9", "-"}) {
            e.run("feeds '" + sign.repeat(160) + "' -> 160", "text -> -100", "reads 'take' -> -104", "reads 'take 1;go 1' -> -111", "reads 'take 1;go 1;' -> 1");
        }
        e.run("feeds 'take 1;go " + "9".repeat(150) + "' -> 160", "text -> -110", "feeds 'take 1;go 1" + " ".repeat(148) + "z' -> 160", "text -> -259");
        e.run("feeds '" + ";".repeat(159) + "9' -> 160", "text -> -100", "feeds '" + ";".repeat(159) + "z' -> 160", "text -> -100");
        String sums = "take 1" + "+1".repeat(74) + ";go 1;";
        e.run("feeds '" + sums + "' -> 160", "text -> 1", "force 1", "body 0 0 0 0 0", "man 0 0 0 0", "says 0 0 0 -> 75");
        String terms = "take 1;go 9" + "*9".repeat(74) + ";";
        int nines = 9;
        for (int k = 0; k < 74; k++) {
            nines *= 9;
        }
        e.run("feeds '" + terms + "' -> 160", "text -> 1", "force 1", "body 2 0 0 0 0", "says 1 0 0 -> " + nines);
        e.run("feeds '" + "take -----1" + "--1".repeat(47) + "*1" + ";go 1;" + "' -> 160", "text -> 1", "force 1", "body 0 0 0 0 0", "man 0 0 0 0", "says 0 0 0 -> 46");
    }

    private void tokens() {
        e.of(0, "TOKENS, each as long as can be: WORDS (a .. z), NUMBERS (digits, 4 at most), SIGNS ( ) ; + - * < = ; blanks (32, 10) may stand between.",
            "reads 'take1;go2;' -> 1", "reads ' \n take \n 1 \n ; \n go \n 2 \n ; \n ' -> 2", "reads 'take 9999;go 0000;' -> 3", "reads 'take 1or 2and 3;go 1or2;' -> 4");
        fine("take(1);go(2);");
        fine("take-1;go-2;");
        fine("take not(1)and(not 2)or 3;go 1;");
        fine("take 1<2;go 1=2;");
        fault("take hurtz;go 1;", 5);
        fault("takea 1;go 1;", 0);
        fault("xake 1;go 1;", 0);
        fault("take 1;lo 1;", 7);
        fault("take 1 xr 1;go 1;", 7);
        fault("take curt;go 1;", 5);
        fault("take 10000;go 1;", 5);
        fault("take 00000;go 1;", 5);
        fault("take 1;go 12345678;", 10);
        fault("take 1 2;go 1;", 7);
        fault("taken 1;go 1;", 0);
        fault("take hurtskill;go 1;", 5);
        fault("take nothurt;go 1;", 5);
        fault("take 1 orhurt;go 1;", 7);
        fault("ta ke 1;go 1;", 0);
        fault("take 1;g o 1;", 7);
        for (int sign : new int[] {0, 9, 11, 12, 13, 31, 33, 34, 35, 36, 37, 38, 39, 44, 46, 47, 58, 62, 63, 64, 65, 90, 91, 95, 96, 123, 124, 126, 127, 128, 160, 255}) {
            fault("take 1 " + (char) sign + ";go 1;", 7);
        }
        fault("take a;go 1;", 5);
        fault("take z;go 1;", 5);
    }

    private void grammar() {
        e.of(0, "TEXT: take E ; go E ; E: AND { or AND }. AND: NOT { and NOT }. NOT: not NOT, or SUM, perhaps < or = and a SUM. SUM: TERM { + or - TERM }. "
            + "TERM: ONE { * ONE }. ONE: a NUMBER, a NAME, - ONE, ( E ).",
            "reads 'take 1;go 1;' -> 1", "reads 'take 1;go 1' -> -111", "reads 'take 1 go 1;' -> -107", "reads 'take;go 1;' -> -104", "reads 'take 1;go;' -> -109",
            "reads 'go 1;take 1;' -> -100", "reads 'take 1;take 1;' -> -107", "reads ';take 1;go 1;' -> -100", "reads 'take 1;go 1;;' -> -112", "reads 'take 1;;go 1;' -> -107");
        comesTo("0 or 0 or 7", 1);
        comesTo("1 and 1 and 0", 0);
        comesTo("1 or 1 and 0", 1);
        comesTo("0 and 1 or 1", 1);
        comesTo("not 0 and 0", 0);
        comesTo("not 1<0", 1);
        comesTo("not not 7", 1);
        comesTo("1-2-3", -4);
        comesTo("2-3*4", -10);
        comesTo("2*3+4", 10);
        comesTo("-2*-3", 6);
        comesTo("- -2", 2);
        comesTo("-(2+3)", -5);
        comesTo("1+2<4", 1);
        comesTo("3=1+2", 1);
        comesTo("(1<2)<2", 1);
        fault("take 1<2<3;go 1;", 8);
        fault("take 1=2=3;go 1;", 8);
        fault("take 1<2=3;go 1;", 8);
        fault("take 1+not 1;go 1;", 7);
        fault("take 1*not 1;go 1;", 7);
        fault("take -not 1;go 1;", 6);
        fault("take 1<not 1;go 1;", 7);
        fault("take +1;go 1;", 5);
        fault("take 1+*2;go 1;", 7);
        fault("take or 1;go 1;", 5);
        fault("take 1 and or 1;go 1;", 11);
        fault("take 1 or;go 1;", 9);
        fault("take ();go 1;", 6);
        fault("take 1);go 1;", 6);
        fault("take (1;go 1;", 7);
        fault("take (1 2);go 1;", 8);
        fault("take <1;go 1;", 5);
    }

    private void names() {
        e.of(0, "NAMES are strength hurt skill hour fuel far; take, go, or, and, not are KEYS.",
            "body 0 0 0 0 77", "man 0 50 20 3", "pass 4", "reads 'take strength;go 0;' -> 1", "reads 'take hurt;go 0;' -> 2", "reads 'take skill;go 0;' -> 3",
            "reads 'take hour;go 0;' -> 4", "reads 'take fuel+far;go 0;' -> 5", "force 1", "says 0 0 0 -> 50", "force 2", "says 0 0 0 -> 20", "force 3", "says 0 0 0 -> 3",
            "force 4", "says 0 0 0 -> 4", "force 5", "says 0 0 0 -> 77");
        comesTo("far", 0);
        for (String key : new String[] {"take", "go", "or", "and", "not", "food", "men", "strengt", "hurts", "fa", "farr", "x"}) {
            fault("take " + key + ";go 1;", key.equals("not") ? 8 : 5);
        }
    }

    private void values() {
        String least = "8192*8192*32";
        e.of(0, "An E is an int (32 bits, wrapping): of or, and, not, <, = 1 or 0 (what is not 0 is true).",
            "reads 'take 1;go 1;' -> 1");
        comesTo(least, MIN_INT);
        comesTo(least + "-1", Integer.MAX_VALUE);
        comesTo(least + "+" + least, 0);
        comesTo("-(" + least + ")", MIN_INT);
        comesTo(least + "*-1", MIN_INT);
        comesTo("0-" + least, MIN_INT);
        comesTo(least + "<" + least + "-1", 1);
        comesTo(least + "-1<" + least, 0);
        comesTo(least + "=0-" + least, 1);
        comesTo("8192*8192*64=0", 1);
        comesTo("8192*8192*64 or 0", 0);
        comesTo("not 8192*8192*64", 1);
        comesTo(least + " and " + least, 1);
        comesTo("9999*9999*9999", 9999 * 9999 * 9999);
        comesTo("9999*9999*9999*9999*9999", 9999 * 9999 * 9999 * 9999 * 9999);
        comesTo("not 0", 1);
        comesTo("not -1", 0);
        comesTo("0 or -5", 1);
        comesTo("5 or 0", 1);
        comesTo("0 or 0", 0);
        comesTo("5 and -5", 1);
        comesTo("5 and 0", 0);
        comesTo("0 and 5", 0);
        comesTo("2 and 1", 1);
        comesTo("1<1", 0);
        comesTo("0<1", 1);
        comesTo("-1<0", 1);
        comesTo("1=1", 1);
        comesTo("1=-1", 0);
        comesTo("(1<2)+(2=2)+(not 0)", 3);
    }

    private void faults() {
        e.of(0, "FAULT: the place of the first byte of the first TOKEN that can't stand there (the text's size, if it ends too early), also of a byte that begins none, "
            + "a WORD that is neither KEY nor NAME, a NUMBER that is too long, a ( , a not, a - ahead of a ONE while 5 of these are open (a ( till its ) , not and - till "
            + "what they belong to ends).",
            "text -> -100", "reads ' ' -> -101", "reads '\n\n' -> -102");
        fault("take", 4);
        fault("take ", 5);
        fault("take 1", 6);
        fault("take 1 ", 7);
        fault("take 1;", 7);
        fault("take 1;go", 9);
        fault("take 1;go 1", 11);
        fault("take 1;go 1 \n ", 14);
        fault("take not", 8);
        fault("take (", 6);
        fault("take -", 6);
        fault("take 1+", 7);
        fault("take 1<", 7);
        fault("take 1 or ", 10);
        fault("take (1", 7);
        fault("take 1;go 1;x", 12);
        fault("take 1;go 1; 9", 13);
        fault("take 1;go 1; ?", 13);
        fault("take 1;go 1;\n;", 13);
        fault("?", 0);
        fault(" ?", 1);
        fault("take ?", 5);
        fault("take wrong ?;go 1;", 5);
        fault("take ? wrong;go 1;", 5);
        fault("take 1 wrong;go 1;", 7);
        fault("take 1 12345;go 1;", 7);
        fault("take 12345 ?;go 1;", 5);
        fault("take 1;go go ?;", 10);
    }

    private void openOnes() {
        e.run("reads 'take (((((1)))));go (((((1)))));' -> 1", "reads 'take ((((((1))))));go 1;' -> -110");
        fine("take not not not not not 1;go not not not not not 1;");
        fault("take not not not not not not 1;go 1;", 25);
        fine("take -----1;go -----1;");
        fault("take ------1;go 1;", 10);
        fault("take 1;go ------1;", 15);
        fine("take not(-(-1));go 1;");
        fault("take not(-(-(1)));go 1;", 12);
        fault("take not(-(-not 1));go 1;", 12);
        fault("take (((((-1)))));go 1;", 10);
        fault("take (((((not 1)))));go 1;", 10);
        fine("take (((((1-1)))));go 1;");
        fault("take (((((1--1)))));go 1;", 12);
        fault("take (((((1+(1))))));go 1;", 12);
        fine("take (((((1)))))+(((((1)))))*(((((1)))));go 1;");
        fine("take -----1*-----1-----1;go 1;");
        fault("take -----1*-----1------1+------1;go 1;", 31);
        fine("take ((((-1))))+(((((1)))));go 1;");
        fine("take not not not not -1<-1 and not not not not not 1;go 1;");
        fault("take not not not not -1<--1;go 1;", 25);
        fine("take not not not not not 1<1 or not not not not not 1;go 1;");
        fault("take not not not not not 1<-1;go 1;", 27);
        fault("take not not not not not 1<(1);go 1;", 27);
        fine("take -(-(-1))*-(-(-1));go 1;");
        fine("take not(not(not 1)and not(1))and-1;go 1;");
        fine("take not(not(not 1 and-1)and not(1))and-1;go 1;");
        fault("take not(not(not -1));go 1;", 17);
    }

    private void texts() {
        e.of(0, "There are 6 TEXTS at most, TEXT 0 with them.",
            "count 11 -> 1", "5 x reads 'take 1;go 1;' -> 1..", "count 11 -> 6", "feeds 'take 1;go 1;' -> 12", "text -> FULL", "force 5 -> 0", "force 6 -> BAD");
    }

    private void takeAndGo() {
        e.of(0, "take is asked of a MAN: strength, hurt, skill; hour: HOUR; fuel: FUEL of the BODY; far 0.",
            "body 2 0 0 0 999", "body 0 63 0 0 0", "man 0 1 2 3", "man 1 99 98 97", "reads 'take strength+hurt*100+skill*9999;go 0;'", "reads 'take hour*1000+fuel;go 0;'",
            "reads 'take far;go 0;'", "force 1", "says 0 0 0 -> 30198", "says 0 1 0 -> 979802", "force 2", "says 0 0 0 -> 999", "says 0 1 0 -> 0", "4 x pass 48", "pass 47",
            "says 0 0 0 -> 239999", "says 0 1 0 -> 239000", "force 3", "says 0 0 1 -> 0", "says 0 1 0 -> 0");
        e.of(0, "go is asked of a SEEKER and a BODY: strength, hurt, skill 0; hour: HOUR; fuel: its FUEL; far: how many CELLS APART are its own CELL and the nearest one of "
            + "that BODY's PATCH in HOUR (99, if it is LOST).",
            "body 2 0 0 0 999", "body 3 63 0 0 5", "man 0 9 9 9", "reads 'take 0;go strength+hurt+skill;'", "reads 'take 0;go hour*1000+fuel;'", "reads 'take 0;go far;'", "force 1",
            "says 1 0 1 -> 0", "force 2", "says 1 0 1 -> 999", "force 3", "says 1 0 0 -> 0", "says 1 0 1 -> 7", "pass 1", "says 1 0 1 -> 6", "pass 6", "says 1 0 1 -> 0",
            "fix 1 7 {7,56}", "says 1 0 1 -> 7", "fix 1 7 {7}", "says 1 0 1 -> 7", "fix 1 7 {56}", "says 1 0 1 -> 99", "force 2", "says 1 0 1 -> 7999");
        e.of(0, "TEXT 0, at first THE ORDER, is: take hurt * 2 - strength ; go far * 6 < fuel ;",
            "count 13 -> 0", "body 2 0 0 0 42", "body 2 0 0 0 43", "body 0 63 0 0 0", "body 0 0 0 0 0", "body 2 0 0 0 0", "body 2 1 0 0 6", "man 2 99 0 50", "man 2 0 99 50",
            "man 2 0 0 99", "says 0 0 0 -> -99", "says 0 1 0 -> 198", "says 0 2 0 -> 0", "says 1 0 2 -> 0", "says 1 1 2 -> 1", "says 1 4 3 -> 0", "says 1 0 3 -> 1",
            "says 1 5 3 -> 0", "fix 2 0 0", "says 1 1 2 -> 0", "reads 'take 1;go 1;'", "force 1", "says 1 1 2 -> 1", "force 0", "says 1 1 2 -> 0");
    }

    private void firstAndFood() {
        e.of(0, "FIRST of a BODY: MEN of it, the greatest take first, of like ones the least.",
            "body 0 0 0 0 0", "body 0 0 0 0 0", "man 0 5 0 0", "man 1 0 0 0", "man 0 0 0 0", "man 0 5 0 0", "man 0 0 0 9", "first 0 0 -> 2", "first 0 1 -> 4", "first 0 2 -> 0",
            "first 0 3 -> 3", "first 0 4 -> NONE", "first 1 0 -> 1", "first 1 1 -> NONE", "reads 'take 1;go 0;'", "force 1", "first 0 0 -> 0", "first 0 1 -> 2", "first 0 2 -> 3",
            "first 0 3 -> 4", "reads 'take 8192*8192*32-strength;go 0;'", "force 2", "first 0 0 -> 0", "first 0 1 -> 3", "first 0 2 -> 2", "first 0 3 -> 4");
        e.of(0, "FOOD LASTS: to the first HOUR in which less is left than it EATS (from HOUR on; 9999, if it EATS nothing).",
            "body 0 0 20 0 0", "body 2 0 20 0 0", "body 1 0 0 0 0", "body 4 0 0 9 0", "body 1 0 5 4 0", "body 1 0 5 5 0", "body 1 0 5 9 0", "body 1 0 5 10 0", "body 1 0 5 0 0",
            "body 5 0 20 9999 0", "body 3 0 0 1 0", "bodyTold 0 8 -> 9999", "bodyTold 1 8 -> 9999", "bodyTold 2 8 -> 9999", "bodyTold 3 8 -> 9999", "bodyTold 4 8 -> 0",
            "bodyTold 5 8 -> 1", "bodyTold 6 8 -> 1", "bodyTold 7 8 -> 2", "bodyTold 8 8 -> 0", "bodyTold 9 8 -> 9999", "bodyTold 10 8 -> 1", "pass 1", "bodyTold 4 8 -> 1",
            "bodyTold 5 8 -> 1", "bodyTold 6 8 -> 1", "bodyTold 7 8 -> 2", "bodyTold 8 8 -> 1", "bodyTold 9 8 -> 9999", "pass 48", "bodyTold 7 8 -> 49", "bodyTold 0 8 -> 9999",
            "bodyTold 9 8 -> 9999", "body 5 0 0 9999 0", "bodyTold 11 8 -> 10048");
    }

    private void man() {
        e.of(23, "A MAN: the number. BAD; FULL.",
            "man 0 0 0 0 -> BAD", "body 0 0 0 0 0", "man -1 0 0 0 -> BAD", "man 1 0 0 0 -> BAD", "man MIN 0 0 0 -> BAD", "man MAX 0 0 0 -> BAD", "man 0 -1 0 0 -> BAD",
            "man 0 100 0 0 -> BAD", "man 0 MIN 0 0 -> BAD", "man 0 MAX 0 0 -> BAD", "man 0 0 -1 0 -> BAD", "man 0 0 100 0 -> BAD", "man 0 0 MIN 0 -> BAD", "man 0 0 MAX 0 -> BAD",
            "man 0 0 0 -1 -> BAD", "man 0 0 0 100 -> BAD", "man 0 0 0 MIN -> BAD", "man 0 0 0 MAX -> BAD", "man 0 99 99 99 -> 0", "15 x man 0 0 0 0 -> 1..", "man 0 0 0 0 -> FULL",
            "man 1 0 0 0 -> BAD", "man 0 100 0 0 -> BAD", "count 8 -> 16", "bodyTold 0 3 -> 0");
    }

    private void feed() {
        e.of(24, "The n lowest bytes of a number, the lowest first, come behind THE TAPE: how many it has. BAD: n is not 1 .. 8. FULL.",
            "feed 0 0 -> BAD", "feed -1 0 -> BAD", "feed 9 0 -> BAD", "feed MIN 0 -> BAD", "feed MAX 0 -> BAD", "count 12 -> 0", "feed 4 0x3F3F3F3F656B6174 -> 4",
            "feed 1 0x3F20 -> 5", "feed 8 0x3B376F673B313131 -> 13", "text -> 1", "force 1", "body 2 0 0 0 0", "man 0 0 0 0", "says 0 0 0 -> 111", "says 1 0 0 -> 7");
        e.run("feed 1 -1 -> 1", "feed 8 LMIN -> 9", "feed 8 -1 -> 17", "feed 7 0 -> 24", "17 x feed 8 0x2020202020202020", "feed 1 0 -> FULL", "feed 8 0 -> FULL", "feed 9 0 -> BAD",
            "feed 0 0 -> BAD", "count 12 -> 160", "text -> -100", "count 12 -> 0", "feed 1 0 -> 1");
        e.run("19 x feed 8 0x2020202020202020", "feed 1 32 -> 153", "feed 8 0x2020202020202020 -> FULL", "count 12 -> 153", "feed 7 0x20202020202020 -> 160", "text -> -260");
        e.run("19 x feed 8 0x2020202020202020", "feed 7 0x20202020202020 -> 159", "feed 2 0x2020 -> FULL", "feed 1 0x3F -> 160", "text -> -259");
    }

    private void text() {
        e.of(25, "THE TAPE, which is empty then, is a TEXT: its number; -100 less the place of its FAULT. FULL: no TEXT more has room (THE TAPE stays).",
            "text -> -100", "count 12 -> 0", "count 11 -> 1", "reads 'take 1;go 1;' -> 1", "count 12 -> 0", "text -> -100", "reads 'take 1;go 1;x' -> -112", "count 12 -> 0",
            "count 11 -> 2", "4 x reads 'take 1;go 1;' -> 2..", "text -> FULL", "feed 1 63 -> 1", "text -> FULL", "count 12 -> 1", "feeds 'take 1;go 1;' -> 13", "text -> FULL",
            "count 12 -> 13", "count 11 -> 6", "18 x feed 8 0", "feed 3 0 -> 160", "text -> FULL", "feed 1 0 -> FULL", "count 12 -> 160", "force 5 -> 0", "count 13 -> 5");
    }

    private void force() {
        e.of(26, "A TEXT is THE ORDER: which was. BAD.",
            "force 0 -> 0", "force 1 -> BAD", "force -1 -> BAD", "force 6 -> BAD", "force MIN -> BAD", "force MAX -> BAD", "reads 'take 1;go 1;' -> 1", "count 13 -> 0", "force 1 -> 0",
            "force 1 -> 1", "force 2 -> BAD", "count 13 -> 1", "4 x reads 'take 1;go 1;'", "force 5 -> 1", "force 6 -> BAD", "force 0 -> 5", "count 13 -> 0");
    }

    private void says() {
        e.of(27, "What take (part 0: a MAN, b does not matter), go (1: a SEEKER, b BODY) of THE ORDER comes to. NO: none such.",
            "says 0 0 0 -> NO", "body 0 0 0 0 0", "body 1 0 0 0 0", "body 2 0 0 0 1", "body 3 0 0 0 0", "body 4 0 0 0 0", "body 5 0 0 0 1", "man 0 1 1 1", "says 0 0 0 -> 1",
            "says 0 0 -1 -> 1", "says 0 0 99 -> 1", "says 0 0 MIN -> 1", "says 0 0 MAX -> 1", "says 0 -1 0 -> NO", "says 0 1 0 -> NO", "says 0 16 0 -> NO", "says 0 MIN 0 -> NO",
            "says 0 MAX 0 -> NO", "says -1 0 0 -> NO", "says 2 0 0 -> NO", "says 2 2 0 -> NO", "says MIN 2 0 -> NO", "says MAX 2 0 -> NO", "says 1 0 0 -> NO", "says 1 1 0 -> NO",
            "says 1 2 0 -> 1", "says 1 3 0 -> NO", "says 1 4 0 -> NO", "says 1 5 0 -> 1", "says 1 6 0 -> NO", "says 1 -1 0 -> NO", "says 1 MIN 0 -> NO", "says 1 MAX 0 -> NO",
            "says 1 2 -1 -> NO", "says 1 2 5 -> 1", "says 1 2 6 -> NO", "says 1 2 MIN -> NO", "says 1 2 MAX -> NO", "says 1 2 2 -> 1");
    }

    private void first() {
        e.of(28, "The i-th of FIRST of a BODY. NONE: none such; BAD: no such BODY.",
            "first 0 0 -> BAD", "body 0 0 0 0 0", "body 0 0 0 0 0", "first 0 0 -> NONE", "15 x man 0 0 0 0 -> 0..", "man 1 0 0 0 -> 15", "first 0 0 -> 0", "first 0 14 -> 14",
            "first 0 15 -> NONE", "first 0 -1 -> NONE", "first 0 MIN -> NONE", "first 0 MAX -> NONE", "first 1 0 -> 15", "first 1 1 -> NONE", "first -1 0 -> BAD", "first 2 0 -> BAD",
            "first MIN 0 -> BAD", "first MAX 0 -> BAD", "first 2 -1 -> BAD");
    }
}
