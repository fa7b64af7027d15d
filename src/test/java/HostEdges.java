/** Edges of the host's sheets: the terms' sixth part, promises 35 to 38. */
final class HostEdges {
    private final Edges e;

    HostEdges(Edges e) {
        this.e = e;
    }

    void all() {
        terms();
        sheet();
        cell();
        copy();
        fixes();
        fixesRefused();
    }

    private void terms() {
        e.of(0, "SHEETS 0 .. 3 are rows of numbers, or missing (as all are at first): of sort 0 bytes, 1 shorts, 2 ints.",
            "body 0 5 0 0 0", "cell -1 0 0 -> BAD", "cell 0 0 0 -> -11", "cell 1 0 0 -> -11", "cell 2 0 0 -> -11", "cell 3 0 0 -> -11", "cell 4 0 0 -> BAD", "sheet 0 0 2 -> 1",
            "sheet 1 1 2 -> 1", "sheet 2 2 2 -> 1", "sheet 3 2 2 -> 1", "sheet 4 2 2 -> BAD", "sheet 0 3 2 -> BAD", "fixes 0 0 0 0 1 -> 1", "fixes 0 1 1 0 1 -> 1", "fixes 0 2 2 0 1 -> 1",
            "fixes 0 3 2 0 1 -> 1", "fixes 0 0 1 0 1 -> -13", "fixes 0 0 2 0 1 -> -13", "fixes 0 1 0 0 1 -> -13", "fixes 0 1 2 0 1 -> -13", "fixes 0 2 0 0 1 -> -13",
            "fixes 0 2 1 0 1 -> -13");
    }

    private void sheet() {
        e.of(35, "A SHEET becomes a row of n of a sort, all 0, or missing (sort -1: n does not matter): 1. BAD: no such SHEET, sort; n above 40; -14.",
            "sheet -1 0 0 -> BAD", "sheet 4 0 0 -> BAD", "sheet MIN 0 0 -> BAD", "sheet MAX 0 0 -> BAD", "sheet 0 -2 0 -> BAD", "sheet 0 3 0 -> BAD", "sheet 0 MIN 0 -> BAD",
            "sheet 0 MAX 0 -> BAD", "sheet 0 0 41 -> BAD", "sheet 0 0 MAX -> BAD", "sheet 0 0 -1 -> -14", "sheet 0 1 MIN -> -14", "sheet 0 3 -1 -> BAD", "sheet 4 0 -1 -> BAD",
            "sheet 4 -1 0 -> BAD", "sheet -1 -1 0 -> BAD", "cell 0 0 0 -> -11", "sheet 0 0 0 -> 1", "cell 0 0 0 -> -12", "sheet 0 2 40 -> 1", "cell 0 39 0 -> 1", "cell 0 40 0 -> -12",
            "sheet 0 -1 -1 -> 1", "cell 0 0 0 -> -11", "sheet 0 -1 41 -> 1", "sheet 0 -1 MIN -> 1", "sheet 0 -1 MAX -> 1", "cell 0 0 0 -> -11");
        e.run("body 0 0 0 0 0", "body 0 0 0 0 0", "sheet 0 0 4", "cell 0 1 7", "cell 0 3 7", "sheet 0 0 4 -> 1", "fixes 0 0 0 0 2 -> 2", "patch 0 0 0 -> {0}", "cell 0 1 7",
            "sheet 0 0 41 -> BAD", "sheet 0 0 -1 -> -14", "sheet 0 3 4 -> BAD", "fixes 1 0 0 0 1 -> 1", "patch 1 0 0 -> 0", "sheet 0 0 1 -> 1", "sheet 0 0 2 -> 1",
            "fixes 0 0 0 0 1 -> 1", "patch 0 0 0 -> {0}");
        e.run("body 0 0 0 0 0", "sheet 0 0 40", "cell 0 0 9", "cell 0 39 9", "sheet 0 0 40", "fixes 0 0 0 0 1 -> 1", "fixes 0 0 0 38 1 -> 1", "patch 0 0 0 -> {0}");
        e.run("body 0 0 0 0 0", "sheet 0 2 2", "cell 0 1 9", "sheet 0 -1 0", "sheet 0 2 2", "fixes 0 0 2 0 1 -> 1", "patch 0 0 0 -> {0}");
    }

    private void cell() {
        e.of(36, "Item i of a SHEET becomes v (of bytes, shorts its lowest 8, 16 bits): 1. BAD: no such SHEET; -11; -12.",
            "cell -1 0 0 -> BAD", "cell 4 0 0 -> BAD", "cell MIN 0 0 -> BAD", "cell MAX 0 0 -> BAD", "cell 0 -1 0 -> -11", "cell 0 0 0 -> -11", "cell 0 MAX 0 -> -11", "sheet 0 0 2",
            "cell 0 -1 0 -> -12", "cell 0 0 0 -> 1", "cell 0 1 0 -> 1", "cell 0 2 0 -> -12", "cell 0 40 0 -> -12", "cell 0 MIN 0 -> -12", "cell 0 MAX 0 -> -12", "cell 0 0 MIN -> 1",
            "cell 0 0 MAX -> 1", "cell 0 1 -256 -> 1");
        e.run("body 0 5 0 0 0", "sheet 0 0 2", "cell 0 1 5", "fixes 0 0 0 0 1 -> 1", "cell 0 1 261", "fixes 0 0 0 0 1 -> 1", "cell 0 1 -251", "fixes 0 0 0 0 1 -> 1", "patch 0 0 0 -> {5}",
            "cell 0 1 64", "fixes 0 0 0 0 1 -> 0", "cell 0 1 -1", "fixes 0 0 0 0 1 -> 0", "cell 0 1 255", "fixes 0 0 0 0 1 -> 0", "cell 0 1 MAX", "fixes 0 0 0 0 1 -> 0", "cell 0 1 MIN",
            "fixes 0 0 0 0 1 -> 1", "patch 0 0 0 -> 0");
        e.run("body 0 5 0 0 0", "sheet 0 1 2", "cell 0 1 5", "fixes 0 0 1 0 1 -> 1", "cell 0 1 261", "fixes 0 0 1 0 1 -> 0", "cell 0 1 65541", "fixes 0 0 1 0 1 -> 1", "cell 0 1 -65531",
            "fixes 0 0 1 0 1 -> 1", "patch 0 0 0 -> {5}", "cell 0 1 65535", "fixes 0 0 1 0 1 -> 0", "cell 0 1 MIN", "fixes 0 0 1 0 1 -> 1", "patch 0 0 0 -> 0");
        e.run("body 0 5 0 0 0", "sheet 0 2 2", "cell 0 1 5", "fixes 0 0 2 0 1 -> 1", "cell 0 1 65541", "fixes 0 0 2 0 1 -> 0", "cell 0 1 MIN", "fixes 0 0 2 0 1 -> 0", "cell 0 1 MAX",
            "fixes 0 0 2 0 1 -> 0", "patch 0 0 0 -> {5}");
        e.run("body 0 5 0 0 0", "3 x pass 48", "sheet 0 0 2", "sheet 1 1 2", "cell 0 1 5", "cell 1 1 5", "cell 0 0 127", "fixes 0 0 0 0 1 -> 1", "cell 0 0 128", "fixes 0 0 0 0 1 -> 0",
            "cell 1 0 128", "fixes 0 1 1 0 1 -> 1", "cell 1 0 32768", "fixes 0 1 1 0 1 -> 0", "cell 0 0 256", "fixes 0 0 0 0 1 -> 1", "cell 1 0 65536", "fixes 0 1 1 0 1 -> 1");
    }

    private void copy() {
        e.of(37, "n numbers of a SHEET, from item i on, come to another one's item j on (as they were): n. BAD: no such SHEET; -11; -13: they are of unlike sorts; "
            + "-12 (also with n below 0).",
            "copy -1 0 0 0 0 -> BAD", "copy 4 0 0 0 0 -> BAD", "copy 0 0 -1 0 0 -> BAD", "copy 0 0 4 0 0 -> BAD", "copy MIN 0 0 0 0 -> BAD", "copy 0 0 MAX 0 0 -> BAD",
            "copy 0 0 0 0 0 -> -11", "copy 0 0 1 0 -1 -> -11", "sheet 0 0 4", "copy 0 0 1 0 1 -> -11", "copy 1 0 0 0 1 -> -11", "copy 0 -1 1 -1 -1 -> -11", "sheet 1 1 4", "sheet 2 2 4",
            "copy 0 0 1 0 0 -> -13", "copy 0 0 1 0 -1 -> -13", "copy 0 9 1 0 1 -> -13", "copy 1 0 0 0 1 -> -13", "copy 1 0 2 0 1 -> -13", "copy 2 0 0 0 1 -> -13", "copy 2 0 1 0 1 -> -13",
            "copy 0 0 3 0 1 -> -11", "copy 3 0 4 0 1 -> BAD");
        e.run("sheet 0 0 4", "sheet 1 0 3", "copy 0 0 1 0 -1 -> -12", "copy 0 0 1 0 MIN -> -12", "copy 0 0 1 0 MAX -> -12", "copy 0 -1 1 0 1 -> -12", "copy 0 MIN 1 0 1 -> -12",
            "copy 0 MAX 1 0 1 -> -12", "copy 0 0 1 -1 1 -> -12", "copy 0 0 1 MIN 1 -> -12", "copy 0 0 1 MAX 1 -> -12", "copy 0 0 1 0 3 -> 3", "copy 0 0 1 0 4 -> -12", "copy 0 1 1 0 3 -> 3",
            "copy 0 2 1 0 3 -> -12", "copy 0 3 1 0 1 -> 1", "copy 0 4 1 0 1 -> -12", "copy 0 4 1 0 0 -> 0", "copy 0 5 1 0 0 -> -12", "copy 0 0 1 3 0 -> 0", "copy 0 0 1 4 0 -> -12",
            "copy 0 0 1 2 1 -> 1", "copy 0 0 1 2 2 -> -12", "copy 0 0 1 3 1 -> -12", "copy 0 -1 1 0 0 -> -12", "copy 0 0 1 -1 0 -> -12", "copy 0 1 1 1 MAX -> -12",
            "copy 0 MAX 1 0 MAX -> -12", "copy 0 2 1 2 2147483646 -> -12", "copy 0 0 0 0 4 -> 4", "copy 0 0 0 0 5 -> -12", "copy 1 0 0 1 3 -> 3", "copy 1 0 0 2 3 -> -12");
        e.run("sheet 0 2 0", "copy 0 0 0 0 0 -> 0", "copy 0 0 0 0 1 -> -12", "copy 0 1 0 0 0 -> -12");
        String[] told = {"body 3 0 0 0 0", "pass 8", "sheet 0 0 8", "cell 0 1 9", "cell 0 3 18", "cell 0 5 27", "cell 0 7 36", "cell 0 0 1", "cell 0 2 2", "cell 0 4 3", "cell 0 6 4"};
        e.run(with(told, "copy 0 0 0 2 6 -> 6", "fixes 0 0 0 0 4 -> 4", "patch 0 1 8 -> {9}", "patch 0 2 8 -> {18}", "patch 0 3 8 -> {27}", "patch 0 4 8 -> "
            + "{18,19,20,26,27,28,34,35,36}"));
        e.run(with(told, "copy 0 2 0 0 6 -> 6", "fixes 0 0 0 0 4 -> 4", "patch 0 1 8 -> {0,1,8,9}", "patch 0 2 8 -> {18}", "patch 0 3 8 -> {27}", "patch 0 4 8 -> {36}"));
        e.run(with(told, "sheet 1 0 8", "copy 0 6 1 2 2 -> 2", "copy 1 0 0 0 2 -> 2", "cell 0 1 64", "fixes 0 1 0 2 1 -> 1", "patch 0 4 8 -> {36}", "fixes 0 0 0 0 1 -> 0"));
    }

    private static String[] with(String[] first, String... more) {
        String[] all = new String[first.length + more.length];
        System.arraycopy(first, 0, all, 0, first.length);
        System.arraycopy(more, 0, all, first.length, more.length);
        return all;
    }

    private void fixes() {
        e.of(38, "FIXES of a BODY by a SHEET that is taken for one of a sort: from one on, two by two (HOUR, CELL: a set of that one), n of them (0 .. 20): how many came "
            + "(others are left out).",
            "pass 1", "body 3 27 0 0 0", "pass 2", "sheet 0 2 20", "cell 0 1 0", "cell 0 2 27", "cell 0 3 1", "cell 0 4 27", "cell 0 5 4", "cell 0 6 27", "cell 0 7 -1", "cell 0 8 27",
            "cell 0 9 2", "cell 0 10 -1", "cell 0 11 2", "cell 0 12 64", "cell 0 13 3", "cell 0 14 27", "cell 0 15 MAX", "cell 0 16 MIN", "cell 0 17 2", "cell 0 18 MAX",
            "fixes 0 0 2 1 0 -> 0", "count 3 -> 0", "fixes 0 0 2 1 1 -> 0", "fixes 0 0 2 1 2 -> 1", "count 3 -> 1", "fixes 0 0 2 1 9 -> 2", "count 3 -> 3", "patch 0 3 3 -> {27}",
            "patch 0 3 2 -> {9,10,11,12,13,17,18,19,20,21,25,26,27,28,29,33,34,35,36,37,41,42,43,44,45}", "fixes 0 0 2 5 4 -> 0", "count 3 -> 3", "fixes 0 0 2 13 1 -> 1");
        e.run("body 0 0 0 0 0", "sheet 0 0 40", "fixes 0 0 0 0 20 -> 20", "fixes 0 0 0 0 21 -> BAD", "fixes 0 0 0 0 -1 -> BAD", "fixes 0 0 0 38 1 -> 1", "fixes 0 0 0 39 1 -> -12",
            "count 3 -> 21", "fixes 0 0 0 0 19 -> 19", "count 3 -> 40", "cell 0 1 5", "fixes 0 0 0 0 20 -> 0", "patch 0 0 0 -> {0}", "count 3 -> 40", "fixes 0 0 0 38 1 -> 0",
            "fixes 0 0 0 39 1 -> -12");
        e.run("body 0 0 0 0 0", "sheet 0 0 40", "39 x fix 0 0 1", "fixes 0 0 0 0 20 -> 1", "count 3 -> 40", "fix 0 0 1 -> FULL");
    }

    private void fixesRefused() {
        e.of(38, "BAD: no such BODY, SHEET, sort, n; -13; -11; -12: what stood ahead came.",
            "fixes 0 0 0 0 0 -> BAD", "body 0 0 0 0 0", "fixes -1 0 0 0 0 -> BAD", "fixes 1 0 0 0 0 -> BAD", "fixes MIN 0 0 0 0 -> BAD", "fixes MAX 0 0 0 0 -> BAD", "fixes 0 -1 0 0 0 -> BAD",
            "fixes 0 4 0 0 0 -> BAD", "fixes 0 MIN 0 0 0 -> BAD", "fixes 0 MAX 0 0 0 -> BAD", "fixes 0 0 -1 0 0 -> BAD", "fixes 0 0 3 0 0 -> BAD", "fixes 0 0 MIN 0 0 -> BAD",
            "fixes 0 0 MAX 0 0 -> BAD", "fixes 0 0 0 0 -1 -> BAD", "fixes 0 0 0 0 21 -> BAD", "fixes 0 0 0 0 MIN -> BAD", "fixes 0 0 0 0 MAX -> BAD", "fixes 0 0 0 0 0 -> -11",
            "fixes 0 0 1 0 1 -> -11", "fixes 0 0 2 -1 20 -> -11", "sheet 0 1 4", "fixes 0 0 0 0 0 -> -13", "fixes 0 0 2 -1 1 -> -13", "fixes 0 0 1 0 0 -> 0", "fixes 0 0 1 -1 1 -> -12",
            "fixes 0 0 1 3 1 -> -12", "fixes 0 0 1 4 1 -> -12", "fixes 0 0 1 MIN 1 -> -12", "fixes 0 0 1 MAX 20 -> -12", "fixes 0 0 1 2147483646 1 -> -12", "count 3 -> 0");
        e.run("body 0 0 0 0 0", "sheet 0 1 4", "fixes 0 0 1 2 1 -> 1", "fixes 0 0 1 0 2 -> 2", "count 3 -> 3", "fixes 0 0 1 0 3 -> -12 !", "count 3 -> 5", "fixes 0 0 1 1 2 -> -12 !",
            "count 3 -> 6", "fixes 0 0 1 2 20 -> -12 !", "count 3 -> 7", "cell 0 3 5", "patch 0 0 0 -> {0}", "fixes 0 0 1 2 2 -> -12 !", "count 3 -> 8", "patch 0 0 0 -> 0");
        e.run("body 0 0 0 0 0", "sheet 0 1 0", "fixes 0 0 1 0 0 -> 0", "fixes 0 0 1 0 1 -> -12", "fixes 0 0 0 0 1 -> -13", "sheet 0 1 1", "fixes 0 0 1 0 1 -> -12", "count 3 -> 0");
    }
}
