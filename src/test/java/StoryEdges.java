/** Edges of stories, the breaker and what is counted: the rest of the terms' fifth part, promises 29 to 34. */
final class StoryEdges {
    private final Edges e;

    StoryEdges(Edges e) {
        this.e = e;
    }

    void all() {
        stories();
        breaker();
        story();
        unfit();
        clash();
        row();
        days();
        count();
    }

    private void stories() {
        e.of(0, "STORIES (20 at most, numbered from 0): a BODY was in a CELL in an HOUR (HOUR at most).",
            "body 0 0 0 0 0", "story 0 0 0 -> 0", "story 0 0 1 -> BAD", "pass 1", "story 0 0 1 -> 1", "story 0 0 2 -> BAD", "18 x story 0 63 1 -> 2..", "story 0 0 0 -> FULL",
            "story 0 0 2 -> BAD", "count 9 -> 20", "unfit -> " + ((1 << 20) - 4));
        e.of(0, "FITS: that CELL is in its PATCH then, as is KNOWN now.",
            "body 3 0 0 0 0", "body 2 63 0 0 0", "pass 2", "story 0 0 0", "story 0 1 0", "story 0 9 1", "story 0 10 1", "story 0 18 2", "story 0 19 2", "story 1 63 0", "story 1 63 2",
            "story 1 62 2", "unfit -> 298", "fix 0 2 {0}", "unfit -> 314", "pass 1", "fix 0 1 0", "unfit -> 318", "fix 0 0 0", "unfit -> 319");
        e.of(0, "CLASH: two of one BODY, if from the CELL of the earlier one (of like HOURS: the other CELL is another one) it can't drift to the other one's by that HOUR "
            + "(without FIXES).",
            "body 3 0 0 0 0", "body 3 0 0 0 0", "pass 2", "story 0 27 0", "story 0 27 0", "story 0 28 0", "story 0 45 2", "story 0 46 2", "story 0 27 2", "story 0 36 1", "story 1 27 0",
            "clash 0 1 -> 0", "clash 1 0 -> 0", "clash 0 2 -> 1", "clash 2 0 -> 1", "clash 0 3 -> 0", "clash 3 0 -> 0", "clash 0 4 -> 1", "clash 4 0 -> 1", "clash 2 4 -> 0",
            "clash 0 5 -> 0", "clash 6 3 -> 0", "clash 6 4 -> 1", "clash 3 4 -> 1", "clash 0 7 -> BAD", "fix 0 1 0", "fix 0 0 0", "clash 0 3 -> 0", "clash 0 1 -> 0", "unfit -> 255");
    }

    private void breaker() {
        e.of(0, "THE BREAKER: ROWS (4 at most) of ice: for 5 DAYS and 3 ways (0 .. 9 each, as digits of a long to the base 10, DAY 0's way 0 the lowest, then way 1, 2, "
            + "then DAY 1).",
            "row 123456789012345 -> 0", "days 5 99 -1 -> 30", "days 5 99 0 -> 2", "days 5 99 1 -> 2", "days 5 99 2 -> 2", "days 5 99 3 -> 2", "days 5 99 4 -> 2", "days 1 99 -1 -> 6",
            "row 999999999999999 -> 1", "days 5 99 -1 -> 0", "row 0 -> 2", "row 1 -> 3", "row 0 -> FULL", "count 10 -> 4");
        e.run("row 543210987654321", "days 5 99 -1 -> 30", "days 1 99 0 -> 0", "days 2 99 1 -> 0", "days 3 99 2 -> 0", "days 4 99 3 -> 0", "days 5 99 4 -> 0");
        e.run("row 999999999999909", "days 1 99 -1 -> 9", "days 1 99 0 -> 1", "days 5 99 -1 -> 9");
        e.run("row 99999999999999", "days 5 99 -1 -> 9", "days 5 99 4 -> 2", "days 5 99 0 -> 0", "days 5 0 -1 -> 0");
        e.of(0, "With COAL a way costs as much as its ice and 1; it goes 9 less the ice CELLS, if there is COAL enough, else 0 (and that DAY costs nothing).",
            "row 0", "days 5 5 -1 -> 45", "days 5 4 -1 -> 36", "days 5 1 -1 -> 9", "days 5 0 -1 -> 0", "days 1 1 -1 -> 9", "days 1 0 -1 -> 0", "days 5 99 -1 -> 45");
        e.run("row 888888888888888", "days 1 8 -1 -> 0", "days 1 9 -1 -> 1", "days 5 45 -1 -> 5", "days 5 44 -1 -> 4", "days 5 99 -1 -> 5");
        e.run("row 555", "days 2 1 -1 -> 9", "days 2 5 -1 -> 9", "days 2 6 -1 -> 4", "days 2 7 -1 -> 13", "days 1 5 -1 -> 0", "days 1 6 -1 -> 4");
        e.run("row 222993", "days 2 4 -1 -> 7", "days 2 4 0 -> 1", "days 2 4 1 -> 0", "days 2 7 -1 -> 13", "days 2 7 0 -> 0", "days 2 3 -1 -> 7", "days 2 3 0 -> 0", "days 2 2 -1 -> 0");
        e.of(0, "THE DAYS (n, 1 .. 5): for which the least number of CELLS that it goes, of all ROWS, is greatest; of like ones the least as digits, DAY 0's first. (Without ROWS: 0.)",
            "days 1 0 -1 -> 0", "days 5 99 -1 -> 0", "days 5 99 0 -> 0", "days 5 99 4 -> 0", "days 5 99 5 -> NONE", "days 0 99 -1 -> BAD", "days 6 99 -1 -> BAD", "row 912", "row 192",
            "days 1 99 -1 -> 7", "days 1 99 0 -> 0", "row 129", "days 1 99 -1 -> 0", "days 1 99 0 -> 0", "days 2 99 1 -> 0");
        e.run("row 500", "row 5", "days 1 99 -1 -> 9", "days 1 99 0 -> 1", "days 2 2 -1 -> 18", "days 2 2 0 -> 1", "days 2 2 1 -> 0", "row 50", "days 1 99 -1 -> 4", "days 1 99 0 -> 0",
            "row 999999999999999", "days 5 99 -1 -> 0", "days 5 99 0 -> 0", "days 5 99 4 -> 0");
        e.run("row 99099099099099", "days 1 99 -1 -> 9", "days 1 99 0 -> 2", "days 2 99 -1 -> 18", "days 2 99 0 -> 2", "days 2 99 1 -> 2", "days 3 99 -1 -> 27", "days 3 99 0 -> 2",
            "days 3 99 2 -> 2", "days 4 99 -1 -> 36", "days 4 99 0 -> 2", "days 4 99 3 -> 2", "days 5 99 -1 -> 45", "days 5 99 0 -> 2", "days 5 99 4 -> 2");
        e.run("row 990990990990909", "days 2 99 -1 -> 18", "days 3 99 -1 -> 27", "days 3 99 0 -> 1", "days 3 99 1 -> 0", "days 3 99 2 -> 0", "days 4 99 -1 -> 36", "days 4 99 0 -> 1",
            "days 4 99 3 -> 0", "days 5 99 -1 -> 45", "days 5 99 0 -> 1", "days 5 99 1 -> 0", "days 5 99 4 -> 0");
        e.run("row 99099099099990", "days 2 99 -1 -> 18", "days 3 99 -1 -> 27", "days 3 99 0 -> 0", "days 3 99 1 -> 2", "days 3 99 2 -> 2", "days 4 99 -1 -> 36", "days 4 99 0 -> 0",
            "days 4 99 3 -> 2", "days 5 99 -1 -> 45", "days 5 99 0 -> 0", "days 5 99 1 -> 2", "days 5 99 4 -> 2");
        e.run("row 990990990990099", "days 3 99 -1 -> 27", "days 3 99 0 -> 2", "days 3 99 1 -> 0", "days 3 99 2 -> 0", "days 4 99 -1 -> 36", "days 4 99 0 -> 2", "days 5 99 -1 -> 45",
            "days 5 99 0 -> 2", "days 5 99 4 -> 0");
        e.run("row 909999909", "days 3 1 -1 -> 9", "days 3 1 0 -> 0", "days 3 1 1 -> 0", "days 3 1 2 -> 1", "days 3 2 -1 -> 18", "days 3 2 0 -> 1", "days 3 2 1 -> 0", "days 3 2 2 -> 1");
        e.run("row 909999999999909", "days 5 1 -1 -> 9", "days 5 1 0 -> 0", "days 5 1 1 -> 0", "days 5 1 4 -> 1", "days 4 1 0 -> 1", "days 4 1 3 -> 0");
        e.run("row 111", "row 333", "days 1 2 -1 -> 0", "days 1 4 -1 -> 6", "days 2 4 -1 -> 6", "days 2 5 -1 -> 15");
    }

    private void story() {
        e.of(29, "A STORY: its number. BAD: HOUR ahead of the BODY's beginning, too; FULL.",
            "story 0 0 0 -> BAD", "pass 3", "body 0 0 0 0 0", "body 0 0 0 0 0", "pass 2", "story 0 0 2 -> BAD", "story 0 0 3 -> 0", "story 0 0 5 -> 1", "story 0 0 6 -> BAD",
            "story 0 0 -1 -> BAD", "story 0 0 MIN -> BAD", "story 0 0 MAX -> BAD", "story 0 0 240 -> BAD", "story -1 0 3 -> BAD", "story 2 0 3 -> BAD", "story MIN 0 3 -> BAD",
            "story MAX 0 3 -> BAD", "story 0 -1 3 -> BAD", "story 0 64 3 -> BAD", "story 0 MIN 3 -> BAD", "story 0 MAX 3 -> BAD", "story 1 63 3 -> 2", "17 x story 1 0 4 -> 3..",
            "story 0 0 3 -> FULL", "story 0 0 2 -> BAD", "story 0 64 3 -> BAD", "story 2 0 3 -> BAD", "count 9 -> 20");
    }

    private void unfit() {
        e.of(30, "STORIES (bits) that don't FIT.",
            "unfit -> 0", "body 0 5 0 0 0", "unfit -> 0", "story 0 5 0", "unfit -> 0", "18 x story 0 5 0", "unfit -> 0", "story 0 6 0 -> 19", "unfit -> 524288", "fix 0 0 ~{5}",
            "unfit -> 1048575");
        e.run("body 0 5 0 0 0", "story 0 6 0", "unfit -> 1", "story 0 5 0", "unfit -> 1");
    }

    private void clash() {
        e.of(31, "Whether two STORIES CLASH (1, 0). BAD: one and itself, of two BODIES, too.",
            "clash 0 1 -> BAD", "body 2 0 0 0 0", "body 2 0 0 0 0", "story 0 1 0", "clash 0 0 -> BAD", "story 0 1 0", "story 0 2 0", "story 1 1 0", "clash 0 1 -> 0", "clash 0 2 -> 1",
            "clash 2 0 -> 1", "clash 1 1 -> BAD", "clash 0 3 -> BAD", "clash 3 0 -> BAD", "clash -1 0 -> BAD", "clash 0 -1 -> BAD", "clash -1 -1 -> BAD", "clash 4 0 -> BAD",
            "clash 0 4 -> BAD", "clash 4 4 -> BAD", "clash 20 0 -> BAD", "clash MIN 0 -> BAD", "clash 0 MIN -> BAD", "clash MAX 0 -> BAD", "clash 0 MAX -> BAD");
    }

    private void row() {
        e.of(32, "A ROW of ice (15 digits): its number. BAD; FULL.",
            "row -1 -> BAD", "row LMIN -> BAD", "row LMAX -> BAD", "row 1000000000000000 -> BAD", "row 999999999999999 -> 0", "row 0 -> 1", "row 100000000000000 -> 2", "row 9 -> 3",
            "row 9 -> FULL", "row 0 -> FULL", "row -1 -> BAD", "row 1000000000000000 -> BAD", "count 10 -> 4");
    }

    private void days() {
        e.of(33, "THE DAYS with COAL (0 .. 99): i = -1: the least number of CELLS; else the way of DAY i. BAD: n, COAL; NONE: none such.",
            "row 0", "days 0 0 0 -> BAD", "days -1 0 0 -> BAD", "days 6 0 0 -> BAD", "days MIN 0 0 -> BAD", "days MAX 0 0 -> BAD", "days 1 -1 0 -> BAD", "days 1 100 0 -> BAD",
            "days 1 MIN 0 -> BAD", "days 1 MAX 0 -> BAD", "days 1 0 -1 -> 0", "days 1 99 -1 -> 9", "days 1 0 -2 -> NONE", "days 1 0 0 -> 0", "days 1 0 1 -> NONE", "days 5 99 4 -> 0",
            "days 5 99 5 -> NONE", "days 4 99 4 -> NONE", "days 5 99 MIN -> NONE", "days 5 99 MAX -> NONE", "days 6 99 5 -> BAD", "days 5 100 5 -> BAD", "days 0 100 -2 -> BAD");
    }

    private void count() {
        e.of(34, "How many: 0 HOUR, 1 BODIES, 2 WINDS, 3 FIXES, 4 HEARERS, 5 CALLS, 6 PARTS, 7 LANES, 8 MEN (told one by one), 9 STORIES, 10 ROWS, 11 TEXTS, 12 bytes of THE TAPE, "
            + "13 THE ORDER, 14 STAYS. BAD.",
            "count -1 -> BAD", "count 15 -> BAD", "count MIN -> BAD", "count MAX -> BAD", "count 0 -> 0", "count 14 -> 0", "12 x body 0 0 20 0 0", "count 8 -> 0", "30 x wind 0 1 2222",
            "30 x fog 0 1 0", "40 x fix 0 0 1", "6 x hearer 0", "20 x call 0 0 0", "40 x part 0 0 0 0", "16 x lane 1", "16 x man 0 0 0 0", "20 x story 0 0 0", "4 x row 0",
            "5 x reads 'take 1;go 1;'", "20 x feed 8 0", "force 5", "stays 9", "4 x pass 48", "pass 47", "count 0 -> 239", "count 1 -> 12", "count 2 -> 30", "count 3 -> 40", "count 4 -> 6",
            "count 5 -> 20", "count 6 -> 40", "count 7 -> 16", "count 8 -> 16", "count 9 -> 20", "count 10 -> 4", "count 11 -> 6", "count 12 -> 160", "count 13 -> 5", "count 14 -> 9");
    }
}
