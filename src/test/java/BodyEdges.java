/** Edges of bodies, patches and fixes: the terms' second part, promises 5 to 8 and 39. */
final class BodyEdges {
    private static final String AROUND_27 = "{18,19,20,26,27,28,34,35,36}";
    private final Edges e;

    BodyEdges(Edges e) {
        this.e = e;
    }

    void all() {
        kinds();
        eatsAndBurns();
        drifts();
        patches();
        fixTerms();
        body();
        bodyTold();
        patch();
        fix();
        taken();
    }

    private void kinds() {
        e.of(0, "BODIES (12 at most, numbered from 0) have a KIND: 0 BODY, 1 PARTY under BODY, 2 SEEKER under BODY, 3 FLOE under PARTY, "
            + "4 WALKERS under PARTY, 5 STUCK under SEEKER; begin in an HOUR (HOUR, as they are told) at a CELL; have MEN (0 .. 20), "
            + "FOOD (0 .. 9999), FUEL (0 .. 999).",
            "12 x body 0 0 0 0 0 -> 0..", "body 0 0 0 0 0 -> FULL", "bodyTold 0 0 -> 0", "bodyTold 11 0 -> 0", "bodyTold 12 0 -> BAD", "bodyTold -1 0 -> BAD",
            "count 1 -> 12");
        e.run("body -1 0 0 0 0 -> BAD", "body 0 0 0 0 0 -> 0", "body 5 0 0 0 0 -> 1", "body 6 0 0 0 0 -> BAD", "body 0 -1 0 0 0 -> BAD", "body 0 63 0 0 0 -> 2",
            "body 0 64 0 0 0 -> BAD", "body 0 0 -1 0 0 -> BAD", "body 0 0 20 0 0 -> 3", "body 0 0 21 0 0 -> BAD", "body 0 0 0 -1 0 -> BAD",
            "body 0 0 0 9999 0 -> 4", "body 0 0 0 10000 0 -> BAD", "body 0 0 0 0 -1 -> BAD", "body 0 0 0 0 999 -> 5", "body 0 0 0 0 1000 -> BAD",
            "bodyTold 0 3 -> 0", "bodyTold 0 4 -> 0", "bodyTold 0 5 -> 0", "bodyTold 2 1 -> 63", "bodyTold 3 3 -> 20", "bodyTold 4 4 -> 9999",
            "bodyTold 5 5 -> 999", "count 1 -> 6");
        e.run("body 0 5 0 0 0", "bodyTold 0 2 -> 0", "4 x pass 48", "pass 47", "body 0 5 0 0 0 -> 1", "bodyTold 1 2 -> 239", "patch 1 239 0 -> {5}",
            "patch 1 238 239 -> NO", "bodyTold 0 2 -> 0");
    }

    private void eatsAndBurns() {
        e.of(0, "EATS (FOOD an HOUR): BODY none; PARTY 1 for each of its MEN; SEEKER as a BODY; FLOE as a PARTY, and 1 more; WALKERS twice a PARTY's; "
            + "STUCK 1 more than a SEEKER.",
            "body 0 0 0 0 0", "body 1 0 0 0 0", "body 2 0 0 0 0", "body 3 0 0 0 0", "body 4 0 0 0 0", "body 5 0 0 0 0",
            "body 0 0 20 0 0", "body 1 0 20 0 0", "body 2 0 20 0 0", "body 3 0 20 0 0", "body 4 0 20 0 0", "body 5 0 20 0 0",
            "bodyTold 0 6 -> 0", "bodyTold 1 6 -> 0", "bodyTold 2 6 -> 0", "bodyTold 3 6 -> 1", "bodyTold 4 6 -> 0", "bodyTold 5 6 -> 1",
            "bodyTold 6 6 -> 0", "bodyTold 7 6 -> 20", "bodyTold 8 6 -> 0", "bodyTold 9 6 -> 21", "bodyTold 10 6 -> 40", "bodyTold 11 6 -> 1");
        e.of(0, "BURNS (FUEL for each CELL): BODY 1; PARTY as a BODY; SEEKER 2 more than a BODY; FLOE as a PARTY; WALKERS as a PARTY; STUCK twice a SEEKER's.",
            "body 0 0 20 9 0", "body 1 0 20 9 0", "body 2 0 20 9 0", "body 3 0 20 9 0", "body 4 0 20 9 0", "body 5 0 20 9 0", "bodyTold 0 7 -> 1",
            "bodyTold 1 7 -> 1", "bodyTold 2 7 -> 3", "bodyTold 3 7 -> 1", "bodyTold 4 7 -> 1", "bodyTold 5 7 -> 6");
    }

    private void drifts() {
        e.of(0, "DRIFT in an HOUR (columns a .. b, rows c .. d): BODY as the WIND; PARTY as a BODY; SEEKER none (0 .. 0); FLOE as a PARTY, but a, c 1 less "
            + "and b, d 1 more; WALKERS as a PARTY, in HOURS that 4 divides a, c 1 less and b, d 1 more; STUCK as a BODY.",
            "body 0 27 0 0 0", "body 1 27 0 0 0", "body 2 27 0 0 0", "body 3 27 0 0 0", "body 4 27 0 0 0", "body 5 27 0 0 0",
            "patch 0 1 0 -> {27}", "patch 1 1 0 -> {27}", "patch 2 1 0 -> {27}", "patch 3 1 0 -> " + AROUND_27, "patch 4 1 0 -> " + AROUND_27,
            "patch 5 1 0 -> {27}", "patch 4 4 0 -> " + AROUND_27, "patch 4 5 0 -> {9,10,11,12,13,17,18,19,20,21,25,26,27,28,29,33,34,35,36,37,41,42,43,44,45}",
            "wind 0 1 4444", "patch 0 1 0 -> {45}", "patch 1 1 0 -> {45}", "patch 2 1 0 -> {27}", "patch 3 1 0 -> {36,37,38,44,45,46,52,53,54}",
            "patch 4 1 0 -> {36,37,38,44,45,46,52,53,54}", "patch 5 1 0 -> {45}", "wind 0 1 0", "patch 0 1 0 -> {9}", "patch 2 1 0 -> {27}",
            "patch 3 1 0 -> {0,1,2,8,9,10,16,17,18}", "patch 4 1 0 -> {0,1,2,8,9,10,16,17,18}", "patch 5 1 0 -> {9}", "wind 0 1 404",
            "patch 3 1 0 -> 0x007F7F7F7F7F7F7F", "patch 4 1 0 -> 0x007F7F7F7F7F7F7F", "patch 5 1 0 -> 0x00003E3E3E3E3E00", "patch 2 1 0 -> {27}");
        e.run("pass 1", "body 4 27 0 0 0", "pass 2", "body 4 27 0 0 0", "pass 1", "body 4 27 0 0 0", "patch 0 4 0 -> {27}", "patch 0 5 0 -> " + AROUND_27,
            "patch 1 3 0 -> {27}", "patch 1 4 0 -> {27}", "patch 1 5 0 -> " + AROUND_27, "patch 2 4 0 -> {27}", "patch 2 5 0 -> " + AROUND_27,
            "patch 2 8 0 -> " + AROUND_27, "wind 8 9 3322", "patch 2 9 0 -> {10,11,12,13,14,18,19,20,21,22,26,27,28,29,30,34,35,36,37,38,42,43,44,45,46}");
        e.run("4 x pass 48", "pass 44 -> 236", "body 4 27 0 0 0", "patch 0 236 0 -> {27}", "patch 0 237 0 -> " + AROUND_27, "patch 0 239 0 -> " + AROUND_27);
        e.run("body 3 0 0 0 0", "body 3 63 0 0 0", "body 3 7 0 0 0", "body 3 56 0 0 0", "patch 0 1 0 -> {0,1,8,9}", "patch 1 1 0 -> {54,55,62,63}",
            "patch 2 1 0 -> {6,7,14,15}", "patch 3 1 0 -> {48,49,56,57}", "patch 0 6 0 -> 0x007F7F7F7F7F7F7F", "patch 0 7 0 -> -1", "patch 0 239 0 -> -1");
    }

    private void patches() {
        e.of(0, "PATCH of a BODY in an HOUR (not ahead of its beginning): its CELL as it begins; behind each HOUR all CELLS to which it can drift in that HOUR "
            + "from one of the PATCH (what leaves THE ICE is out of it).",
            "wind 4 5 3322", "wind 5 6 3322", "pass 5", "body 0 27 0 0 0", "patch 0 4 5 -> NO", "patch 0 5 5 -> {27}", "patch 0 6 5 -> {28}", "patch 0 7 5 -> {28}",
            "patch 0 0 0 -> NO", "patch 0 MIN 0 -> NO");
        e.run("body 0 7 0 0 0", "body 0 0 0 0 0", "body 0 62 0 0 0", "wind 0 1 2322", "patch 0 1 0 -> {7}", "wind 0 1 3322", "wind 1 2 1122", "patch 0 1 0 -> 0",
            "patch 0 2 0 -> 0", "patch 0 239 0 -> 0", "patch 1 1 0 -> {1}", "patch 1 2 0 -> {0}", "wind 0 1 1222", "patch 1 1 0 -> {0}", "wind 0 1 2444",
            "patch 2 1 0 -> 0", "wind 0 1 2424", "patch 2 1 0 -> {62,63}", "wind 0 1 2220", "patch 2 1 0 -> {62,63}");
    }

    private void fixTerms() {
        e.of(0, "FIXES (40 at most): a BODY was in an HOUR in a set of CELLS (from its beginning on, HOUR at most); KNOWN from the HOUR on in which it is told.",
            "pass 3", "body 0 27 0 0 0", "wind 3 9 1322", "fix 0 2 -1 -> BAD", "fix 0 3 -1 -> 1", "fix 0 4 -1 -> BAD", "pass 2", "fix 0 2 -1 -> BAD",
            "fix 0 4 {27,28} -> 2", "fix 0 5 -1 -> 3", "fix 0 6 -1 -> BAD", "patch 0 4 4 -> {26,27,28}", "patch 0 4 5 -> {27,28}", "pass 1",
            "patch 0 4 4 -> {26,27,28}", "patch 0 4 5 -> {27,28}", "patch 0 4 6 -> {27,28}", "patch 0 4 0 -> {26,27,28}", "fix 0 4 {28} -> 4",
            "patch 0 4 5 -> {27,28}", "patch 0 4 6 -> {28}", "patch 0 5 6 -> {27,28,29}", "patch 0 5 4 -> {25,26,27,28,29}");
        e.run("body 0 27 0 0 0", "body 0 28 0 0 0", "20 x fix 0 0 -1 -> 1..", "20 x fix 1 0 -1 -> 21..", "fix 0 0 0 -> FULL", "fix 1 0 0 -> FULL",
            "patch 0 0 0 -> {27}", "patch 1 0 0 -> {28}", "count 3 -> 40", "pass 1", "fix 0 1 0 -> FULL", "fix 0 2 0 -> BAD");
        e.of(0, "A FIX narrows the PATCH of its HOUR to what both have, and so all behind it.",
            "body 3 27 0 0 0", "pass 2", "fix 0 1 {0,1,18,63} -> 1", "patch 0 0 2 -> {27}", "patch 0 1 2 -> {18}", "patch 0 2 2 -> {9,10,11,17,18,19,25,26,27}",
            "fix 0 0 {26} -> 2", "patch 0 0 2 -> 0", "patch 0 1 2 -> 0", "patch 0 2 2 -> 0");
        e.run("body 3 27 0 0 0", "pass 1", "fix 0 1 -1", "patch 0 1 1 -> " + AROUND_27, "fix 0 1 ~{18}", "patch 0 1 1 -> {19,20,26,27,28,34,35,36}",
            "fix 0 1 {18}", "patch 0 1 1 -> 0", "patch 0 0 1 -> {27}", "patch 0 1 0 -> " + AROUND_27);
        e.of(0, "It is LOST where the PATCH is empty.",
            "body 0 27 0 0 0", "body 2 27 0 0 9", "lane -1", "pass 1", "fix 0 1 0 -> 1", "patch 0 1 1 -> 0", "patch 0 239 1 -> 0", "patch 0 0 1 -> {27}",
            "share 0 27 0 -> 0", "share 0 27 1 -> 1", "parted 0 2 1 -1 -> 0", "reads 'take 0;go far;' -> 1", "force 1", "says 1 1 0 -> 99", "call 0 0 0",
            "hearer 27", "canHear 0 1 -> 0", "canHear 0 0 -> 1", "story 0 27 1", "story 0 27 0", "unfit -> 1");
    }

    private void body() {
        e.of(5, "A BODY: its number. BAD; FULL.",
            "body MIN 0 0 0 0 -> BAD", "body MAX 0 0 0 0 -> BAD", "body 0 MIN 0 0 0 -> BAD", "body 0 MAX 0 0 0 -> BAD", "body 0 0 MIN 0 0 -> BAD",
            "body 0 0 MAX 0 0 -> BAD", "body 0 0 0 MIN 0 -> BAD", "body 0 0 0 MAX 0 -> BAD", "body 0 0 0 0 MIN -> BAD", "body 0 0 0 0 MAX -> BAD",
            "body 5 63 20 9999 999 -> 0", "body 0 0 0 0 0 -> 1", "10 x body 1 1 1 1 1 -> 2..", "body 1 1 1 1 1 -> FULL", "body 6 1 1 1 1 -> BAD",
            "body 1 64 1 1 1 -> BAD", "body 1 1 21 1 1 -> BAD", "body 1 1 1 10000 1 -> BAD", "body 1 1 1 1 1000 -> BAD", "count 1 -> 12");
    }

    private void bodyTold() {
        e.of(6, "Of a BODY: 0 KIND, 1 its CELL as it began, 2 the HOUR of that, 3 MEN, 4 FOOD, 5 FUEL, 6 EATS, 7 BURNS, 8 FOOD LASTS. BAD.",
            "pass 9", "body 4 63 20 9999 999 -> 0", "bodyTold 0 -1 -> BAD", "bodyTold 0 0 -> 4", "bodyTold 0 1 -> 63", "bodyTold 0 2 -> 9", "bodyTold 0 3 -> 20",
            "bodyTold 0 4 -> 9999", "bodyTold 0 5 -> 999", "bodyTold 0 6 -> 40", "bodyTold 0 7 -> 1", "bodyTold 0 8 -> 258", "bodyTold 0 9 -> BAD",
            "bodyTold -1 0 -> BAD", "bodyTold 1 0 -> BAD", "bodyTold 12 0 -> BAD", "bodyTold MIN 0 -> BAD", "bodyTold MAX 0 -> BAD", "bodyTold 0 MIN -> BAD",
            "bodyTold 0 MAX -> BAD", "wind 9 10 0", "pass 1", "bodyTold 0 1 -> 63", "bodyTold 0 2 -> 9", "bodyTold 0 4 -> 9959", "bodyTold 0 8 -> 258");
    }

    private void patch() {
        e.of(7, "PATCH in an HOUR, as KNOWN in one (0 .. HOUR). NO: none such, ahead of its beginning, HOUR above 239.",
            "pass 2", "body 0 27 0 0 0", "patch 0 2 0 -> {27}", "patch 0 2 2 -> {27}", "patch 0 2 -1 -> NO", "patch 0 2 3 -> NO", "patch 0 2 MIN -> NO",
            "patch 0 2 MAX -> NO", "patch 0 2 239 -> NO", "patch -1 2 2 -> NO", "patch 1 2 2 -> NO", "patch 12 2 2 -> NO", "patch MIN 2 2 -> NO",
            "patch MAX 2 2 -> NO", "patch 0 1 2 -> NO", "patch 0 0 2 -> NO", "patch 0 -1 2 -> NO", "patch 0 MIN 2 -> NO", "patch 0 239 2 -> {27}",
            "patch 0 240 2 -> NO", "patch 0 MAX 2 -> NO");
        e.run("body 0 27 0 0 0", "patch 0 0 0 -> {27}", "patch 0 0 1 -> NO", "patch 0 -1 0 -> NO", "4 x pass 48", "pass 47", "patch 0 239 239 -> {27}",
            "patch 0 239 240 -> NO", "patch 0 0 239 -> {27}", "patch 0 239 0 -> {27}");
    }

    private void fix() {
        e.of(8, "A FIX: how many. BAD; FULL.",
            "fix 0 0 1 -> BAD", "pass 2", "body 0 27 0 0 0", "body 0 28 0 0 0", "pass 2", "fix -1 2 1 -> BAD", "fix 2 2 1 -> BAD", "fix MIN 2 1 -> BAD",
            "fix MAX 2 1 -> BAD", "fix 0 1 1 -> BAD", "fix 0 -1 1 -> BAD", "fix 0 MIN 1 -> BAD", "fix 0 5 1 -> BAD", "fix 0 240 1 -> BAD", "fix 0 MAX 1 -> BAD",
            "fix 0 2 -1 -> 1", "fix 1 4 LMIN -> 2", "fix 1 4 0 -> 3", "fix 0 3 LMAX -> 4", "36 x fix 0 4 -1 -> 5..", "fix 0 4 0 -> FULL", "fix 0 1 0 -> BAD",
            "fix 2 4 0 -> BAD", "patch 0 4 4 -> {27}", "patch 1 4 4 -> 0", "patch 1 3 4 -> {28}");
    }

    private void taken() {
        e.of(39, "A BODY taken for one of KIND k (0 .. 5), or one under that one (also by others between): its MEN. BAD: k; -11: no such BODY; -13.",
            "taken 0 -1 -> BAD", "taken 0 0 -> -11", "taken 0 5 -> -11", "taken 0 6 -> BAD", "taken 0 MIN -> BAD", "taken 0 MAX -> BAD", "taken -1 0 -> -11",
            "body 0 0 20 0 0", "body 1 0 19 0 0", "body 2 0 18 0 0", "body 3 0 17 0 0", "body 4 0 16 0 0", "body 5 0 0 0 0", "taken 6 0 -> -11", "taken MIN 0 -> -11",
            "taken MAX 0 -> -11", "taken MAX 6 -> BAD", "taken 0 0 -> 20", "taken 1 0 -> 19", "taken 2 0 -> 18", "taken 3 0 -> 17", "taken 4 0 -> 16",
            "taken 5 0 -> 0", "taken 0 1 -> -13", "taken 1 1 -> 19", "taken 2 1 -> -13", "taken 3 1 -> 17", "taken 4 1 -> 16", "taken 5 1 -> -13");
        e.run("body 0 0 20 0 0", "body 1 0 19 0 0", "body 2 0 18 0 0", "body 3 0 17 0 0", "body 4 0 16 0 0", "body 5 0 0 0 0", "taken 0 2 -> -13",
            "taken 1 2 -> -13", "taken 2 2 -> 18", "taken 3 2 -> -13", "taken 4 2 -> -13", "taken 5 2 -> 0", "taken 0 3 -> -13", "taken 1 3 -> -13",
            "taken 2 3 -> -13", "taken 3 3 -> 17", "taken 4 3 -> -13", "taken 5 3 -> -13", "taken 3 4 -> -13", "taken 4 4 -> 16", "taken 1 4 -> -13",
            "taken 2 5 -> -13", "taken 5 5 -> 0", "taken 4 5 -> -13");
    }
}
