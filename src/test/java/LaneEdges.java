/** Edges of lanes, shares and flights there and back: the terms' fourth part and COMES, promises 16 to 22. */
final class LaneEdges {
    /** Bodies 0 to 5 are of kinds 0 to 5. */
    private static final String[] EACH_KIND = {
        "body 0 0 0 0 0", "body 1 0 0 0 0", "body 2 0 0 0 0", "body 3 0 0 0 0", "body 4 0 0 0 0", "body 5 0 0 0 0",
    };
    private final Edges e;

    LaneEdges(Edges e) {
        this.e = e;
    }

    void all() {
        lanes();
        shares();
        partedTerms();
        comesTerms();
        lane();
        flown();
        share();
        parted();
        stays();
        comes();
        last();
    }

    private static String[] behind(String[] first, String... more) {
        String[] all = new String[first.length + more.length];
        System.arraycopy(first, 0, all, 0, first.length);
        System.arraycopy(more, 0, all, first.length, more.length);
        return all;
    }

    private void lanes() {
        e.of(0, "LANES (16 at most, numbered from 0) are sets of CELLS.",
            "body 2 63 0 0 0", "lane {63} -> 0", "lane -1 -> 1", "lane {0} -> 2", "13 x lane {0} -> 3..", "lane {0} -> FULL", "lane 0 -> BAD", "count 7 -> 16",
            "parted 0 1 1 -1 -> 1000", "parted 0 1 2 -1 -> 1000", "parted 0 1 4 -1 -> 0", "parted 0 1 32768 -1 -> 0", "parted 0 1 65536 -1 -> BAD");
        e.of(0, "FLOWN (6 for each BODY at most): a SEEKER (or one under it) flew a LANE in HOUR in vain, looking for a BODY: in each CELL of it that one would have "
            + "been seen with a chance of (16 less FOG of that HOUR) sixteenths, if it is there.",
            behind(EACH_KIND, "lane {0}", "6 x flown 2 0 0 -> 1..", "flown 2 0 0 -> FULL", "flown 5 0 0 -> FULL", "flown 5 1 0 -> 1", "5 x flown 2 1 0 -> 2..",
                "flown 2 1 0 -> FULL", "flown 1 2 0 -> BAD", "flown 2 2 0 -> 1", "flown 2 5 0 -> 1"));
        e.run("body 0 0 0 0 0", "body 2 0 0 0 0", "wind 0 1 2322", "pass 1", "lane {0}", "14 x lane {5}", "lane {1} -> 15", "flown 1 0 15", "share 0 0 0 -> 1", "share 0 0 1 -> 1",
            "share 0 1 0 -> 0", "flown 1 0 14", "share 0 0 0 -> 1");
        e.run("body 0 0 0 0 0", "body 2 0 0 0 0", "wind 0 1 2322", "fog 1 2 16", "fog 2 3 8", "fog 3 4 0", "pass 1", "lane {0}", "flown 1 0 0", "share 0 0 0 -> 1", "share 0 0 1 -> 2",
            "pass 1", "flown 1 0 0", "share 0 0 0 -> 1", "share 0 0 1 -> 3", "pass 1", "flown 1 0 0", "share 0 0 0 -> 0", "share 0 1 0 -> 1", "share 0 1 1 -> 1");
    }

    private void shares() {
        e.of(0, "SHARE of a CELL for a BODY in HOUR, as is KNOWN now: all CELLS of its PATCH weigh 1; each LANE that was FLOWN for it makes a CELL of it weigh FOG "
            + "sixteenths of that (also if it has drifted since: the LANE's CELLS as they are); SHARE is its weight by that of all (0, if these weigh nothing).",
            "body 3 0 0 0 0", "body 2 0 0 0 0", "fog 0 240 15", "share 0 0 0 -> 1", "share 0 0 1 -> 1", "share 0 1 0 -> 0", "share 0 1 1 -> 1", "pass 7", "share 0 63 0 -> 1",
            "share 0 63 1 -> 64", "lane {0}", "lane ~{0}", "lane -1", "6 x flown 1 0 0 -> 1..", "share 0 0 0 -> 1265625", "share 0 0 1 -> 118706137",
            "share 0 1 0 -> 16777216", "share 0 1 1 -> 1068355233", "share 0 63 0 -> 16777216", "parted 0 2 2 -1 -> 989", "parted 0 2 1 -1 -> 10", "parted 0 2 4 -1 -> 1000");
        e.run("body 3 0 0 0 0", "body 2 0 0 0 0", "fog 0 240 15", "pass 7", "lane -1", "6 x flown 1 0 0", "share 0 0 0 -> 1", "share 0 0 1 -> 64", "parted 0 2 1 -1 -> 1000",
            "fog 7 8 16", "share 0 63 0 -> 1", "share 0 63 1 -> 64", "fog 7 8 0", "share 0 63 0 -> 0", "share 0 63 1 -> 1", "parted 0 2 1 -1 -> 0", "parted 0 2 1 0 -> 0");
        e.run("body 0 0 0 0 0", "body 2 0 0 0 0", "wind 0 1 2322", "lane {0}", "flown 1 0 0", "share 0 0 0 -> 0", "share 0 0 1 -> 1", "pass 1", "share 0 0 0 -> 0", "share 0 1 0 -> 1",
            "share 0 1 1 -> 1", "wind 1 2 3322", "pass 1", "share 0 1 0 -> 1", "share 0 1 1 -> 2", "share 0 0 0 -> 0", "fix 0 1 {0}", "share 0 1 1 -> 1", "share 0 2 0 -> 0");
    }

    private void partedTerms() {
        e.of(0, "PARTED: SEEKERS told (bits of BODIES, 3 at most) fly one of the LANES told (bits) each, no two the same: so that SHARES of a BODY in all CELLS of these "
            + "LANES (each counted once) are greatest; of like ones the first SEEKER has the lesser LANE, then the second one, and so on.",
            "body 3 27 0 0 0", "4 x body 2 0 0 0 0", "pass 1", "lane {18,19}", "lane {19,20}", "lane {18,20}", "lane {26,27}", "lane {0}", "lane {26,27}",
            "parted 0 2 1 -1 -> 222", "parted 0 6 3 -1 -> 333", "parted 0 6 7 -1 -> 333", "parted 0 6 7 0 -> 0", "parted 0 6 7 1 -> 1", "parted 0 14 7 -1 -> 333",
            "parted 0 14 7 2 -> 2", "parted 0 6 63 -1 -> 444", "parted 0 6 63 0 -> 0", "parted 0 6 63 1 -> 3", "parted 0 6 54 0 -> 1", "parted 0 6 54 1 -> 5",
            "parted 0 24 54 0 -> 1", "parted 0 24 54 1 -> 5", "parted 0 14 63 -1 -> 555", "parted 0 14 63 0 -> 0", "parted 0 14 63 1 -> 1", "parted 0 14 63 2 -> 3",
            "parted 0 26 63 2 -> 3", "parted 0 30 63 -1 -> BAD", "parted 0 6 40 -1 -> 222", "parted 0 6 40 0 -> 3", "parted 0 6 40 1 -> 5", "parted 0 2 48 0 -> 5",
            "parted 0 2 16 0 -> 4", "parted 0 2 16 -1 -> 0");
        e.run("body 3 27 0 0 0", "3 x body 2 0 0 0 0", "lane {27}", "lane {27,28}", "15 x lane {27}", "parted 0 14 65535 -1 -> 1000", "parted 0 14 65535 0 -> 0",
            "parted 0 14 65535 1 -> 1", "parted 0 14 65535 2 -> 2", "parted 0 14 57344 0 -> 13", "parted 0 14 57344 1 -> 14", "parted 0 14 57344 2 -> 15");
    }

    private void comesTerms() {
        e.of(0, "COMES: a SEEKER (or one under it) from a CELL to another one and back, from an HOUR on: each CELL APART takes 1 HOUR; it needs FUEL BURNS times twice as many "
            + "CELLS; FOG in none of the HOURS in which it flies is above 8; it lies at most STAYS (0 .. 9; told) HOURS there, and goes back in the first HOUR from coming on "
            + "from which it can (by FOG). In which HOUR it is back.",
            "body 2 0 0 0 41", "body 2 0 0 0 42", "body 5 0 0 0 83", "body 5 0 0 0 84", "body 2 0 0 0 0", "comes 0 0 7 0 -> NONE", "comes 0 0 6 0 -> 12", "comes 1 0 7 0 -> 14",
            "comes 2 0 7 0 -> NONE", "comes 2 0 6 0 -> 12", "comes 3 0 7 0 -> 14", "comes 4 0 1 0 -> NONE", "comes 4 5 5 0 -> 0", "comes 4 5 5 239 -> 239");
        e.run("body 2 0 0 0 99", "fog 10 11 8", "comes 0 0 1 10 -> 12", "comes 0 0 1 9 -> 11", "fog 10 11 9", "comes 0 0 1 10 -> NONE", "comes 0 0 1 9 -> NONE", "comes 0 0 1 8 -> 10",
            "comes 0 0 1 11 -> 13", "stays 1 -> 0", "comes 0 0 1 9 -> 12", "comes 0 0 1 10 -> NONE", "comes 0 0 2 8 -> 13", "comes 0 0 2 7 -> NONE", "stays 2", "comes 0 0 2 7 -> 13",
            "comes 0 0 2 6 -> 10");
        e.run("body 2 0 0 0 99", "fog 10 19 9", "stays 8", "comes 0 0 1 9 -> NONE", "stays 9 -> 8", "comes 0 0 1 9 -> 20", "comes 0 0 1 8 -> 10", "fog 19 20 9", "comes 0 0 1 9 -> NONE",
            "comes 0 4 4 15 -> 15", "stays 0 -> 9", "comes 0 0 1 20 -> 22", "comes 0 0 1 19 -> NONE");
        e.run("body 2 0 0 0 99", "fog 12 14 9", "fog 15 16 9", "stays 9", "comes 0 0 1 11 -> 15", "comes 0 0 2 10 -> 18", "comes 0 0 2 11 -> NONE", "comes 0 0 3 9 -> 19",
            "fog 237 240 9", "comes 0 0 1 235 -> 237", "comes 0 0 1 236 -> NONE", "comes 0 0 2 233 -> 237", "comes 0 0 2 234 -> NONE");
        e.of(0, "LAST: the last HOUR (239 at most; back by 239) from which it COMES.",
            "body 2 0 0 0 999", "last 0 5 5 -> 239", "last 0 0 1 -> 237", "last 0 0 63 -> 225", "comes 0 0 63 225 -> 239", "comes 0 0 63 226 -> NONE", "fog 239 240 9",
            "last 0 5 5 -> 239", "last 0 0 1 -> 237", "fog 238 239 9", "last 0 0 1 -> 236", "stays 9", "last 0 0 1 -> 236", "fog 1 240 9", "last 0 0 1 -> NONE",
            "fog 1 2 0", "last 0 0 1 -> 0", "fog 0 1 9", "last 0 0 1 -> NONE");
    }

    private void lane() {
        e.of(16, "A LANE: its number. BAD: no CELLS; FULL.",
            "lane 0 -> BAD", "lane 1 -> 0", "lane LMIN -> 1", "lane LMAX -> 2", "lane -1 -> 3", "12 x lane 1 -> 4..", "lane 1 -> FULL", "lane -1 -> FULL", "lane 0 -> BAD",
            "count 7 -> 16");
    }

    private void flown() {
        e.of(17, "FLOWN: how many were for that BODY. BAD: SEEKER (also one of another KIND), BODY, LANE; FULL.",
            behind(EACH_KIND, "flown 2 0 0 -> BAD", "lane 1 -> 0", "flown 0 0 0 -> BAD", "flown 1 0 0 -> BAD", "flown 3 0 0 -> BAD", "flown 4 0 0 -> BAD", "flown 5 0 0 -> 1",
                "flown -1 0 0 -> BAD", "flown 6 0 0 -> BAD", "flown MIN 0 0 -> BAD", "flown MAX 0 0 -> BAD", "flown 2 -1 0 -> BAD", "flown 2 6 0 -> BAD", "flown 2 MIN 0 -> BAD",
                "flown 2 MAX 0 -> BAD", "flown 2 0 -1 -> BAD", "flown 2 0 1 -> BAD", "flown 2 0 16 -> BAD", "flown 2 0 MIN -> BAD", "flown 2 0 MAX -> BAD", "flown 2 0 0 -> 2",
                "4 x flown 2 0 0 -> 3..", "flown 2 0 0 -> FULL", "flown 0 0 0 -> BAD", "flown 2 0 1 -> BAD", "flown 2 6 0 -> BAD", "flown 2 3 0 -> 1"));
    }

    private void share() {
        e.of(18, "SHARE of a CELL: part 0 above, 1 below the line, in lowest terms (0 by 1). NO: none such.",
            "share 0 0 0 -> NO", "body 0 0 0 0 0", "body 2 0 0 0 0", "wind 0 1 2424", "share 0 0 -1 -> NO", "share 0 0 0 -> 1", "share 0 0 1 -> 1", "share 0 0 2 -> NO",
            "share 0 0 MIN -> NO", "share 0 0 MAX -> NO", "share 0 -1 0 -> NO", "share 0 63 0 -> 0", "share 0 63 1 -> 1", "share 0 64 0 -> NO", "share 0 MIN 0 -> NO",
            "share 0 MAX 0 -> NO", "share -1 0 0 -> NO", "share 2 0 0 -> NO", "share 12 0 0 -> NO", "share MIN 0 0 -> NO", "share MAX 0 0 -> NO", "pass 1", "share 0 0 1 -> 9",
            "fog 1 2 8", "lane {0,1,2}", "flown 1 0 0", "share 0 0 0 -> 1", "share 0 0 1 -> 15", "share 0 8 0 -> 2", "share 0 8 1 -> 15", "share 0 3 0 -> 0", "share 0 3 1 -> 1");
    }

    private void parted() {
        e.of(19, "PARTED, for a BODY: i = -1: SHARES together in thousandths; else the LANE of the i-th SEEKER.",
            "body 3 27 0 0 0", "3 x body 2 0 0 0 0", "pass 1", "lane {27}", "lane -1", "lane {0}", "parted 0 2 2 -1 -> 1000", "parted 0 2 1 -1 -> 111", "parted 0 2 4 -1 -> 0",
            "parted 0 14 7 -1 -> 1000", "parted 0 14 7 0 -> 0", "parted 0 14 7 2 -> 2", "parted 0 2 7 0 -> 1", "parted 0 0 7 -1 -> 0", "parted 0 0 0 -1 -> 0");
        e.of(19, "BAD: BODY, SEEKERS (others, more than 3, too), LANES (bits); STATE: fewer LANES than SEEKERS; NONE: none such.",
            behind(EACH_KIND, "parted 0 4 0 -1 -> STATE", "parted 0 4 1 -1 -> BAD", "lane 1", "lane 2", "lane 4", "parted -1 4 1 -1 -> BAD", "parted 6 4 1 -1 -> BAD",
                "parted MIN 4 1 -1 -> BAD", "parted MAX 4 1 -1 -> BAD", "parted 0 1 1 -1 -> BAD", "parted 0 2 1 -1 -> BAD", "parted 0 8 1 -1 -> BAD", "parted 0 16 1 -1 -> BAD",
                "parted 0 32 1 -1 -> 1000", "parted 0 64 1 -1 -> BAD", "parted 0 68 1 -1 -> BAD", "parted 0 MIN 1 -1 -> BAD", "parted 0 MAX 1 -1 -> BAD", "parted 0 -1 1 -1 -> BAD",
                "parted 0 4 8 -1 -> BAD", "parted 0 4 9 -1 -> BAD", "parted 0 4 -1 -1 -> BAD", "parted 0 4 MIN -1 -> BAD", "parted 0 4 MAX -1 -> BAD", "parted 0 4 65536 -1 -> BAD",
                "parted 0 36 1 -1 -> STATE", "parted 0 36 3 -1 -> 1000", "parted 0 36 0 9 -> STATE", "parted 0 37 1 -1 -> BAD", "parted 0 36 3 1 -> 1", "parted 0 36 3 2 -> NONE",
                "parted 0 36 3 -2 -> NONE", "parted 0 36 3 MIN -> NONE", "parted 0 36 3 MAX -> NONE", "parted 0 0 7 0 -> NONE"));
        e.run("4 x body 2 0 0 0 0", "4 x lane 1", "parted 0 7 15 2 -> 2", "parted 0 7 15 3 -> NONE", "parted 0 15 15 0 -> BAD", "parted 0 14 7 2 -> 2", "parted 0 14 3 2 -> STATE",
            "parted 0 15 3 2 -> BAD");
    }

    private void stays() {
        e.of(20, "STAYS: what it was. BAD.",
            "count 14 -> 0", "stays -1 -> BAD", "stays 9 -> 0", "stays 10 -> BAD", "stays MIN -> BAD", "stays MAX -> BAD", "stays 0 -> 9", "stays 1 -> 0", "stays 1 -> 1",
            "count 14 -> 1");
    }

    private void comes() {
        e.of(21, "COMES: the HOUR in which it is back. NONE: it can't, or not by 239; BAD: SEEKER (also one of another KIND), CELLS, HOUR (0 .. 239).",
            behind(EACH_KIND, "body 2 0 0 0 99", "comes 0 0 0 0 -> BAD", "comes 1 0 0 0 -> BAD", "comes 2 0 0 0 -> 0", "comes 3 0 0 0 -> BAD", "comes 4 0 0 0 -> BAD",
                "comes 5 0 0 0 -> 0", "comes -1 0 0 0 -> BAD", "comes 7 0 0 0 -> BAD", "comes MIN 0 0 0 -> BAD", "comes MAX 0 0 0 -> BAD", "comes 6 -1 0 0 -> BAD",
                "comes 6 64 0 0 -> BAD", "comes 6 MIN 0 0 -> BAD", "comes 6 MAX 0 0 -> BAD", "comes 6 0 -1 0 -> BAD", "comes 6 0 64 0 -> BAD", "comes 6 0 MIN 0 -> BAD",
                "comes 6 0 MAX 0 -> BAD", "comes 6 63 0 0 -> 14", "comes 6 0 63 0 -> 14", "comes 6 0 1 -1 -> BAD", "comes 6 0 1 0 -> 2", "comes 6 0 1 237 -> 239",
                "comes 6 0 1 238 -> NONE", "comes 6 0 1 239 -> NONE", "comes 6 0 1 240 -> BAD", "comes 6 0 1 MIN -> BAD", "comes 6 0 1 MAX -> BAD", "comes 2 0 1 0 -> NONE"));
    }

    private void last() {
        e.of(22, "LAST. NONE: never; BAD.",
            behind(EACH_KIND, "body 2 0 0 0 6", "last 0 0 0 -> BAD", "last 1 0 0 -> BAD", "last 2 0 0 -> 239", "last 3 0 0 -> BAD", "last 4 0 0 -> BAD", "last 5 63 63 -> 239",
                "last -1 0 0 -> BAD", "last 7 0 0 -> BAD", "last MIN 0 0 -> BAD", "last MAX 0 0 -> BAD", "last 6 -1 0 -> BAD", "last 6 64 0 -> BAD", "last 6 MIN 0 -> BAD",
                "last 6 MAX 0 -> BAD", "last 6 0 -1 -> BAD", "last 6 0 64 -> BAD", "last 6 0 MIN -> BAD", "last 6 0 MAX -> BAD", "last 6 0 1 -> 237", "last 6 0 2 -> NONE",
                "last 2 0 1 -> NONE", "fog 0 240 9", "last 6 0 1 -> NONE", "last 6 1 1 -> 239"));
    }
}
