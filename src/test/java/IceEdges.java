/** Edges of the ice, its hours, winds and fog: the terms' first part, promises 1 to 4. */
final class IceEdges {
    private final Edges e;

    IceEdges(Edges e) {
        this.e = e;
    }

    void all() {
        cells();
        hours();
        refusals();
        winds();
        fogs();
        newObject();
        pass();
        wind();
        fog();
    }

    private void cells() {
        e.of(0, "An object is used for at most 512 calls after it has been made; what later calls answer is free.",
            "511 x count 0 -> 0", "pass 1 -> 1");
        e.of(0, "CELL c is in column c modulo 8, row c by 8;",
            "body 0 0 0 0 0", "body 0 7 0 0 0", "body 0 8 0 0 0", "body 0 56 0 0 0", "body 0 63 0 0 0",
            "wind 0 1 3322", "patch 0 1 0 -> {1}", "patch 1 1 0 -> 0", "patch 2 1 0 -> {9}", "patch 3 1 0 -> {57}", "patch 4 1 0 -> 0",
            "wind 0 1 1122", "patch 0 1 0 -> 0", "patch 1 1 0 -> {6}", "patch 2 1 0 -> 0", "patch 3 1 0 -> 0", "patch 4 1 0 -> {62}",
            "wind 0 1 2233", "patch 0 1 0 -> {8}", "patch 1 1 0 -> {15}", "patch 2 1 0 -> {16}", "patch 3 1 0 -> 0", "patch 4 1 0 -> 0",
            "wind 0 1 2211", "patch 0 1 0 -> 0", "patch 1 1 0 -> 0", "patch 2 1 0 -> {0}", "patch 3 1 0 -> {48}", "patch 4 1 0 -> {55}");
        e.of(0, "sets of CELLS are told as bits of a long.",
            "body 0 63 0 0 0", "patch 0 0 0 -> LMIN", "body 0 0 0 0 0", "patch 1 0 0 -> 1", "fix 0 0 LMIN -> 1", "patch 0 0 0 -> LMIN",
            "fix 0 0 -1 -> 2", "patch 0 0 0 -> LMIN", "fix 0 0 LMAX -> 3", "patch 0 0 0 -> 0", "lane LMIN -> 0", "lane -1 -> 1");
        e.of(0, "CELLS are n APART: the greater of how many columns and rows they are.",
            "body 2 0 0 0 999", "comes 0 0 0 0 -> 0", "comes 0 63 63 0 -> 0", "comes 0 0 1 0 -> 2", "comes 0 0 9 0 -> 2",
            "comes 0 0 17 0 -> 4", "comes 0 0 10 0 -> 4", "comes 0 7 8 0 -> 14", "comes 0 8 7 0 -> 14", "comes 0 0 7 0 -> 14",
            "comes 0 0 56 0 -> 14", "comes 0 0 63 0 -> 14", "comes 0 56 7 0 -> 14", "comes 0 27 36 0 -> 2");
    }

    private void hours() {
        e.of(0, "HOURS are 0 .. 239; HOUR is 0 at first.",
            "count 0 -> 0", "body 2 0 0 0 0", "comes 0 0 0 0 -> 0", "comes 0 0 0 -1 -> BAD", "comes 0 0 0 239 -> 239",
            "comes 0 0 0 240 -> BAD", "patch 0 239 0 -> 1", "patch 0 240 0 -> NO", "4 x pass 48", "pass 47 -> 239", "count 0 -> 239",
            "patch 0 239 239 -> 1", "fix 0 239 1 -> 1", "story 0 0 239 -> 0", "fix 0 240 1 -> BAD", "story 0 0 240 -> BAD");
        e.of(0, "It is night if the HOUR modulo 24 is below 6 or above 17.",
            "body 0 0 0 0 0", "hearer 0", "hearer 1", "wave 0 0 0 0", "wave 0 1 1 1",
            "call 0 0 0", "canHear 0 0 -> 2", "pass 5", "call 0 0 0", "canHear 1 0 -> 2", "pass 1", "call 0 0 0", "canHear 2 0 -> 1",
            "pass 11 -> 17", "call 0 0 0", "canHear 3 0 -> 1", "pass 1", "call 0 0 0", "canHear 4 0 -> 2",
            "pass 5 -> 23", "call 0 0 0", "canHear 5 0 -> 2", "pass 1", "call 0 0 0", "canHear 6 0 -> 2",
            "pass 5 -> 29", "call 0 0 0", "canHear 7 0 -> 2", "pass 1", "call 0 0 0", "canHear 8 0 -> 1",
            "pass 48", "pass 48", "pass 48", "pass 47 -> 221", "call 0 0 0", "canHear 9 0 -> 2", "pass 1", "call 0 0 0", "canHear 10 0 -> 1",
            "pass 11 -> 233", "call 0 0 0", "canHear 11 0 -> 1", "pass 1", "call 0 0 0", "canHear 12 0 -> 2",
            "pass 5 -> 239", "call 0 0 0", "canHear 13 0 -> 2", "canHear 2 239 -> 1");
        e.of(0, "NONE is -1; NO, where a long is answered, -4611686018427387904.",
            "patch 0 0 0 -> -4611686018427387904", "share 0 0 0 -> -4611686018427387904", "says 0 0 0 -> -4611686018427387904",
            "says 1 0 0 -> -4611686018427387904", "body 0 0 0 0 0", "first 0 0 -> -1", "days 1 0 1 -> -1");
        e.due("RedTent.NONE", RedTent.NONE, -1);
        e.due("RedTent.NO", RedTent.NO, -4611686018427387904L);
        e.of(0, "Quotients are cut.",
            "body 1 0 3 20 0", "bodyTold 0 8 -> 6", "body 1 0 3 2 0", "bodyTold 1 8 -> 0", "body 2 0 0 0 0", "lane {0}", "lane {0,1}",
            "wind 0 1 2422", "pass 1", "parted 0 4 1 -1 -> 333", "parted 0 4 2 -1 -> 666");
    }

    private void refusals() {
        e.of(0, "Refusals, the first that the call's words name; they change nothing:",
            "5 x pass 47", "body 1 0 1 9 1", "body 2 0 1 9 1", "pass 6 -> FULL", "pass 49 -> BAD", "parted 0 1 2 0 -> BAD",
            "parted 0 2 0 5 -> STATE", "fixes 0 0 0 9 1 -> -11", "sheet 0 1 1", "sheet 1 0 1", "copy 0 0 4 0 -1 -> BAD", "copy 0 0 2 0 -1 -> -11",
            "copy 0 0 1 0 -1 -> -13", "copy 0 0 0 0 -1 -> -12", "fixes 0 0 0 9 1 -> -13", "fixes 0 0 1 9 1 -> -12", "sheet 4 0 -1 -> BAD",
            "sheet 0 0 41 -> BAD", "sheet 0 0 -1 -> -14", "taken 9 6 -> BAD", "taken 9 2 -> -11", "taken 0 2 -> -13", "cell 9 9 9 -> BAD",
            "cell 3 9 9 -> -11", "cell 0 9 9 -> -12", "days 0 0 9 -> BAD", "days 1 0 9 -> NONE", "first 9 9 -> BAD", "first 0 9 -> NONE",
            "word 9 9 -> STATE", "comes 0 0 0 0 -> BAD", "comes 1 0 1 0 -> NONE");
        e.of(0, "BAD (-2: a number is none such or not as told), STATE (-3), FULL (-4);",
            "body 2 0 0 0 0 -> 0", "pass 0 -> -2", "body 0 64 0 0 0 -> -2", "parted 0 1 0 -1 -> -3", "pass 48", "pass 48", "pass 48", "pass 48",
            "pass 48 -> -4");
        e.due("RedTent.BAD", RedTent.BAD, -2);
        e.due("RedTent.STATE", RedTent.STATE, -3);
        e.due("RedTent.FULL", RedTent.FULL, -4);
        e.of(0, "the host's: -11 nothing where something is asked, -12 a place outside, -13 a thing of another sort or KIND, -14 a size below 0.",
            "cell 0 0 0 -> -11", "taken 0 0 -> -11", "sheet 0 0 1 -> 1", "cell 0 1 0 -> -12", "cell 0 -1 0 -> -12", "sheet 1 1 1 -> 1",
            "copy 0 0 1 0 1 -> -13", "body 0 0 0 0 0 -> 0", "taken 0 1 -> -13", "sheet 0 0 -1 -> -14");
    }

    private void winds() {
        e.of(0, "WINDS (30 at most): from an HOUR on ahead of another one all drifts by columns a .. b, by rows c .. d (-2 .. 2 each) in each of these "
            + "HOURS (of several the one told last; none: 0).",
            "body 0 27 0 0 0", "patch 0 239 0 -> {27}", "wind 3 5 3322 -> 1", "patch 0 3 0 -> {27}", "patch 0 4 0 -> {28}", "patch 0 5 0 -> {29}",
            "patch 0 6 0 -> {29}", "patch 0 239 0 -> {29}", "wind 4 9 2222 -> 2", "patch 0 9 0 -> {28}", "wind 0 240 2211 -> 3", "patch 0 3 0 -> {3}",
            "patch 0 4 0 -> 0", "wind 0 240 2222 -> 4", "patch 0 239 0 -> {27}");
        e.run("body 0 36 0 0 0", "wind 0 1 0 -> 1", "patch 0 1 0 -> {18}", "wind 0 1 4444 -> 2", "patch 0 1 0 -> {54}", "wind 0 1 44 -> 3",
            "patch 0 1 0 -> {50}", "wind 0 1 4400 -> 4", "patch 0 1 0 -> {22}", "wind 0 1 422 -> 5", "patch 0 1 0 -> {34,35,36,37,38}",
            "wind 0 1 2204 -> 6", "patch 0 1 0 -> {20,28,36,44,52}", "wind 0 1 1313 -> 7", "patch 0 1 0 -> {27,28,29,35,36,37,43,44,45}");
        e.run("body 0 27 0 0 0", "30 x wind 0 1 2222 -> 1..", "wind 0 1 3322 -> FULL", "patch 0 1 0 -> {27}", "count 2 -> 30");
        e.run("body 0 27 0 0 0", "wind 239 240 3322 -> 1", "patch 0 239 0 -> {27}");
    }

    private void fogs() {
        e.of(0, "FOG (30 at most): from an HOUR on ahead of another one there is FOG 0 .. 16 (of several the one told last; none: 0).",
            "body 2 0 0 0 99", "comes 0 0 1 10 -> 12", "fog 12 14 16 -> 1", "comes 0 0 1 10 -> 12", "comes 0 0 1 11 -> NONE", "comes 0 0 1 12 -> NONE",
            "comes 0 0 1 13 -> NONE", "comes 0 0 1 14 -> 16", "fog 0 240 9 -> 2", "comes 0 0 1 0 -> NONE", "comes 0 0 1 237 -> NONE", "fog 13 15 0 -> 3",
            "comes 0 0 1 13 -> 15", "comes 0 0 1 12 -> NONE", "comes 0 0 1 14 -> NONE");
        e.run("body 2 0 0 0 99", "30 x fog 0 1 0 -> 1..", "fog 0 1 16 -> FULL", "comes 0 0 1 0 -> 2");
        e.run("body 0 0 0 0 0", "body 2 0 0 0 0", "wind 0 1 2322", "pass 1", "lane {0}", "flown 1 0 0", "share 0 0 0 -> 0", "fog 1 2 16",
            "share 0 0 0 -> 1", "share 0 0 1 -> 2", "fog 1 2 15", "share 0 0 0 -> 15", "share 0 0 1 -> 31", "fog 1 2 1", "share 0 0 0 -> 1",
            "share 0 0 1 -> 17", "fog 1 2 0", "share 0 0 0 -> 0", "share 0 0 1 -> 1", "share 0 1 0 -> 1", "share 0 1 1 -> 1");
    }

    private void newObject() {
        e.of(1, "HOUR 0, no BODIES.",
            "count 0 -> 0", "count 1 -> 0", "bodyTold 0 0 -> BAD", "bodyTold -1 0 -> BAD", "patch 0 0 0 -> NO", "fix 0 0 1 -> BAD", "call 0 0 0 -> BAD",
            "share 0 0 0 -> NO", "parted 0 0 0 -1 -> BAD", "comes 0 0 0 0 -> BAD", "last 0 0 0 -> BAD", "man 0 0 0 0 -> BAD", "first 0 0 -> BAD",
            "story 0 0 0 -> BAD", "fixes 0 0 0 0 0 -> BAD", "taken 0 0 -> -11", "unfit -> 0");
        e.run("count 2 -> 0", "count 3 -> 0", "count 4 -> 0", "count 5 -> 0", "count 6 -> 0", "count 7 -> 0", "count 8 -> 0", "count 9 -> 0",
            "count 10 -> 0", "count 11 -> 1", "count 12 -> 0", "count 13 -> 0", "count 14 -> 0", "clash 0 1 -> BAD", "isTrue 0 -> BAD",
            "word 0 0 -> STATE", "canHear 0 0 -> BAD", "says 0 0 0 -> NO", "says 1 0 0 -> NO", "flown 0 0 0 -> BAD", "part 0 0 0 0 -> BAD");
    }

    private void pass() {
        e.of(2, "n HOURS (1 .. 48): HOUR. BAD; FULL: above 239.",
            "pass 0 -> BAD", "pass -1 -> BAD", "pass MIN -> BAD", "pass 49 -> BAD", "pass MAX -> BAD", "count 0 -> 0", "pass 1 -> 1", "pass 48 -> 49",
            "pass 48 -> 97", "pass 48 -> 145", "pass 48 -> 193", "pass 47 -> FULL", "pass 48 -> FULL", "pass 49 -> BAD", "pass 46 -> 239",
            "pass 1 -> FULL", "pass 48 -> FULL", "pass 0 -> BAD", "pass 49 -> BAD", "count 0 -> 239");
        e.run("body 4 0 20 9999 0", "pass 49 -> BAD", "bodyTold 0 4 -> 9999", "4 x pass 48", "pass 48 -> FULL", "bodyTold 0 4 -> 2319");
        e.of(2, "(BODIES EAT: FOOD is less, 0 at least.)",
            "body 1 0 5 10 0", "body 1 0 5 9 0", "body 1 0 5 11 0", "body 0 0 5 10 0", "body 2 0 5 10 0", "body 5 0 0 2 0", "body 3 0 0 1 0",
            "body 4 0 20 9999 0", "body 1 0 0 7 0", "body 1 0 20 0 0", "pass 2", "bodyTold 0 4 -> 0", "bodyTold 1 4 -> 0", "bodyTold 2 4 -> 1",
            "bodyTold 3 4 -> 10", "bodyTold 4 4 -> 10", "bodyTold 5 4 -> 0", "bodyTold 6 4 -> 0", "bodyTold 7 4 -> 9919", "bodyTold 8 4 -> 7",
            "bodyTold 9 4 -> 0", "pass 1", "bodyTold 0 4 -> 0", "bodyTold 2 4 -> 0", "bodyTold 9 4 -> 0");
    }

    private void wind() {
        e.of(3, "A WIND; by: digits to the base 10, each 0 .. 4 for -2 .. 2: a the highest, then b, c, d: how many.",
            "body 0 27 0 0 0", "wind 0 1 0 -> 1", "patch 0 1 0 -> {9}", "wind 0 1 4444 -> 2", "patch 0 1 0 -> {45}", "wind 0 1 400 -> 3",
            "patch 0 1 0 -> {9,10,11,12,13}", "wind 0 1 4 -> 4", "patch 0 1 0 -> {9,17,25,33,41}", "wind 0 1 3422 -> 5", "patch 0 1 0 -> {28,29}",
            "wind 0 1 2234 -> 6", "patch 0 1 0 -> {35,43}", "wind 0 1 5555 -> BAD", "wind 0 1 5 -> BAD", "wind 0 1 50 -> BAD", "wind 0 1 500 -> BAD",
            "wind 0 1 2500 -> BAD", "wind 0 1 2205 -> BAD", "wind 0 1 2255 -> BAD", "wind 0 1 4445 -> BAD", "wind 0 1 4454 -> BAD", "wind 0 1 4544 -> BAD",
            "wind 0 1 5444 -> BAD", "wind 0 1 9999 -> BAD", "wind 0 1 10000 -> BAD", "wind 0 1 12222 -> BAD", "wind 0 1 -1 -> BAD", "wind 0 1 -2222 -> BAD",
            "wind 0 1 MIN -> BAD", "wind 0 1 MAX -> BAD", "count 2 -> 6", "patch 0 1 0 -> {35,43}");
        e.of(3, "BAD: HOURS (0 .. 240, to above from), by (a above b, c above d, too); FULL.",
            "body 0 27 0 0 0", "wind -1 1 2222 -> BAD", "wind 0 0 2222 -> BAD", "wind 0 1 2222 -> 1", "wind 0 240 2222 -> 2", "wind 0 241 2222 -> BAD",
            "wind 239 240 2222 -> 3", "wind 240 240 2222 -> BAD", "wind 240 241 2222 -> BAD", "wind 5 4 2222 -> BAD", "wind 5 5 2222 -> BAD",
            "wind MIN 1 2222 -> BAD", "wind 0 MAX 2222 -> BAD", "wind MAX MIN 2222 -> BAD", "wind MIN MAX 2222 -> BAD", "wind 0 MIN 2222 -> BAD",
            "wind 0 1 2122 -> BAD", "wind 0 1 1000 -> BAD", "wind 0 1 4000 -> BAD", "wind 0 1 1022 -> BAD", "wind 0 1 4322 -> BAD", "wind 0 1 2221 -> BAD", "wind 0 1 2243 -> BAD", "wind 0 1 2210 -> BAD",
            "wind 0 1 2222 -> 4", "26 x wind 0 1 2222 -> 5..", "wind 0 1 2222 -> FULL", "wind 0 0 2222 -> BAD", "wind 0 1 2221 -> BAD", "wind 0 1 5 -> BAD",
            "count 2 -> 30");
        e.run("body 0 27 0 0 0", "30 x wind 0 1 3322", "wind 0 240 3322 -> FULL", "patch 0 239 0 -> {28}");
    }

    private void fog() {
        e.of(4, "FOG: how many. BAD: HOURS, fog (0 .. 16); FULL.",
            "body 2 0 0 0 99", "fog 0 1 -1 -> BAD", "fog 0 1 17 -> BAD", "fog 0 1 MIN -> BAD", "fog 0 1 MAX -> BAD", "fog 0 1 0 -> 1", "fog 0 1 16 -> 2",
            "fog -1 1 0 -> BAD", "fog 0 0 0 -> BAD", "fog 0 240 0 -> 3", "fog 0 241 0 -> BAD", "fog 239 240 0 -> 4", "fog 240 240 0 -> BAD",
            "fog 240 241 0 -> BAD", "fog 7 6 0 -> BAD", "fog MIN 1 0 -> BAD", "fog 0 MAX 0 -> BAD", "fog MAX MIN 0 -> BAD", "26 x fog 5 6 0 -> 5..",
            "fog 0 1 16 -> FULL", "fog 0 1 17 -> BAD", "fog 0 0 16 -> BAD", "comes 0 0 1 0 -> 2");
    }
}
