/** Edges of hearers, waves, calls and their parts: the terms' third part, promises 9 to 15. */
final class CallEdges {
    private final Edges e;

    CallEdges(Edges e) {
        this.e = e;
    }

    void all() {
        terms();
        putTogether();
        hearer();
        wave();
        call();
        canHear();
        part();
        word();
        isTrue();
    }

    private void terms() {
        e.of(0, "HEARERS (6 at most, numbered from 0) are at CELLS.",
            "hearer -1 -> BAD", "hearer 0 -> 0", "hearer 63 -> 1", "hearer 64 -> BAD", "4 x hearer 5 -> 2..", "hearer 5 -> FULL", "hearer 64 -> BAD", "count 4 -> 6");
        e.of(0, "WAVES 0 .. 3: each is heard from .. to CELLS APART (0 .. 9 each, to from or more; 0 .. 0 at first), by day, and by night.",
            "wave -1 0 0 0 -> BAD", "wave 0 0 0 0 -> 0", "wave 3 0 0 0 -> 0", "wave 4 0 0 0 -> BAD", "wave 0 0 -1 0 -> BAD", "wave 0 0 9 9 -> 0", "wave 0 0 10 10 -> BAD",
            "wave 0 0 9 10 -> BAD", "wave 0 0 0 9 -> 99", "wave 0 0 5 4 -> BAD", "wave 0 0 5 5 -> 9", "wave 0 0 -1 -1 -> BAD", "wave 0 1 2 3 -> 0", "wave 0 0 0 0 -> 55",
            "wave 0 1 0 0 -> 23", "wave 3 1 0 1 -> 0", "wave 2 1 0 1 -> 0", "wave 1 1 0 1 -> 0");
        e.run("body 0 0 0 0 0", "hearer 0", "hearer 1", "call 0 3 0", "canHear 0 0 -> 1");
        e.run("wave 0 0 0 1", "wave 0 1 0 2", "wave 1 0 0 3", "wave 1 1 0 4", "wave 2 0 0 5", "wave 2 1 0 6", "wave 3 0 0 7", "wave 3 1 0 8", "wave 0 0 9 9 -> 1", "wave 0 1 9 9 -> 2",
            "wave 1 0 9 9 -> 3", "wave 1 1 9 9 -> 4", "wave 2 0 9 9 -> 5", "wave 2 1 9 9 -> 6", "wave 3 0 9 9 -> 7", "wave 3 1 9 9 -> 8");
        e.run("body 0 0 0 0 0", "hearer 0", "hearer 1", "hearer 2", "hearer 3", "hearer 7", "hearer 63", "call 0 0 0", "wave 0 1 1 2", "canHear 0 0 -> 6",
            "wave 0 1 2 7", "canHear 0 0 -> 60", "wave 0 1 8 9", "canHear 0 0 -> 0", "wave 0 1 7 7", "canHear 0 0 -> 48", "wave 0 1 0 9", "canHear 0 0 -> 63",
            "wave 0 1 0 0", "canHear 0 0 -> 1", "wave 0 0 0 9", "canHear 0 0 -> 1");
        e.of(0, "A CALL (20 at most, numbered from 0) is sent from a BODY in HOUR on a WAVE, with 16 WORDS (each 0 .. 15, as digits of a long to the base 16, WORD 0's the lowest).",
            "body 0 0 0 0 0", "20 x call 0 0 0 -> 0..", "call 0 0 0 -> FULL", "call 1 0 0 -> BAD", "count 5 -> 20");
        e.run("body 0 0 0 0 0", "hearer 0", "call 0 0 0xF00000000000000E", "part 0 0 1 0xE", "isTrue 0 -> 1", "part 0 0 32768 LMIN", "isTrue 1 -> 0",
            "part 0 0 32768 0xF000000000000000", "isTrue 2 -> 1", "part 0 0 65535 0xF00000000000000E", "isTrue 3 -> 1", "word 0 1 -> 0", "word 0 0 -> 14", "word 0 15 -> -2");
        e.run("body 0 0 0 0 0", "body 0 63 0 0 0", "hearer 0", "hearer 63", "wave 0 1 0 0", "wave 1 1 1 1", "wave 2 1 7 7", "wave 3 1 0 9", "call 0 0 0", "call 1 0 0", "call 0 1 0",
            "call 1 1 0", "call 0 2 0", "call 1 2 0", "call 0 3 0", "canHear 0 0 -> 1", "canHear 1 0 -> 2", "canHear 2 0 -> 0", "canHear 3 0 -> 0", "canHear 4 0 -> 2", "canHear 5 0 -> 1",
            "canHear 6 0 -> 3");
        e.of(0, "CAN HEAR it a HEARER: as KNOWN in an HOUR, if some CELL of the BODY's PATCH then is as far from it as the WAVE is heard.",
            "body 3 27 0 0 0", "hearer 27", "hearer 29", "hearer 30", "pass 1", "call 0 0 0", "wave 0 1 0 0", "canHear 0 1 -> 1", "wave 0 1 1 1", "canHear 0 1 -> 3",
            "wave 0 1 2 2", "canHear 0 1 -> 6", "wave 0 1 3 3", "canHear 0 1 -> 6", "wave 0 1 4 4", "canHear 0 1 -> 4", "wave 0 1 5 9", "canHear 0 1 -> 0",
            "wave 0 1 1 2", "pass 1", "fix 0 1 {27}", "canHear 0 1 -> 7", "canHear 0 2 -> 2", "fix 0 1 0", "canHear 0 2 -> 0", "canHear 0 1 -> 7", "canHear 0 0 -> 7");
    }

    private void putTogether() {
        e.of(0, "PARTS (40 at most): a HEARER heard of a CALL some WORDS (bits), as told (each 0 .. 15 likewise).",
            "body 0 0 0 0 0", "hearer 0", "call 0 0 0", "40 x part 0 0 1 15 -> 1..", "part 0 0 1 14 -> FULL", "word 0 0 -> 15", "count 6 -> 40", "isTrue 39 -> 0",
            "isTrue 40 -> BAD", "part 0 0 65536 0 -> BAD");
        e.of(0, "PUT TOGETHER is a WORD of a CALL: by all PARTS in which it is heard: SURE, if these are alike; -1, if none has it; -2, if they are not alike.",
            "body 0 0 0 0 0", "hearer 0", "hearer 1", "call 0 0 0", "call 0 0 0", "word 0 0 -> -1", "word 0 15 -> -1", "part 0 0 1 0", "word 0 0 -> 0", "word 0 1 -> -1",
            "word 1 0 -> -1", "part 1 0 1 0xFFFFFFFFFFFFFFF0", "word 0 0 -> 0", "part 1 0 1 15", "word 0 0 -> -2", "part 0 0 1 0", "word 0 0 -> -2", "part 0 1 32769 -1",
            "word 1 0 -> 15", "word 1 15 -> 15", "word 1 14 -> -1", "part 0 1 0 0", "word 1 0 -> 15", "word 0 0 -> -2");
    }

    private void hearer() {
        e.of(9, "A HEARER: its number. BAD; FULL.",
            "hearer MIN -> BAD", "hearer -1 -> BAD", "hearer 64 -> BAD", "hearer MAX -> BAD", "hearer 63 -> 0", "hearer 0 -> 1", "4 x hearer 0 -> 2..", "hearer 0 -> FULL",
            "hearer -1 -> BAD", "hearer MAX -> BAD", "count 4 -> 6");
    }

    private void wave() {
        e.of(10, "A WAVE is heard (night 0, 1) from .. to: 10 times from and to that were. BAD.",
            "wave MIN 0 0 0 -> BAD", "wave MAX 0 0 0 -> BAD", "wave 0 MIN 0 0 -> BAD", "wave 0 -1 0 0 -> BAD", "wave 0 2 0 0 -> BAD", "wave 0 MAX 0 0 -> BAD",
            "wave 0 0 MIN 0 -> BAD", "wave 0 0 MAX MAX -> BAD", "wave 0 0 0 MIN -> BAD", "wave 0 0 0 MAX -> BAD", "wave 0 0 MIN MAX -> BAD", "wave 0 0 1 0 -> BAD",
            "wave 0 0 9 8 -> BAD", "wave 0 0 9 9 -> 0", "wave 0 1 1 9 -> 0", "wave 0 0 0 0 -> 99", "wave 0 1 0 9 -> 19", "wave 0 1 0 0 -> 9", "wave 0 1 0 0 -> 0");
    }

    private void call() {
        e.of(11, "A CALL: its number. BAD: BODY, WAVE; FULL.",
            "call 0 0 0 -> BAD", "body 0 0 0 0 0", "call -1 0 0 -> BAD", "call 1 0 0 -> BAD", "call MIN 0 0 -> BAD", "call MAX 0 0 -> BAD", "call 0 -1 0 -> BAD",
            "call 0 4 0 -> BAD", "call 0 MIN 0 -> BAD", "call 0 MAX 0 -> BAD", "call 0 0 0 -> 0", "call 0 3 0 -> 1", "18 x call 0 1 0 -> 2..", "call 0 0 0 -> FULL",
            "call 0 4 0 -> BAD", "call 1 0 0 -> BAD", "count 5 -> 20");
        e.of(11, "(words: any number.)",
            "body 0 0 0 0 0", "hearer 0", "call 0 0 LMIN -> 0", "call 0 0 LMAX -> 1", "call 0 0 -1 -> 2", "call 0 0 0 -> 3", "part 0 0 65535 LMIN", "part 0 1 65535 LMAX",
            "part 0 2 65535 -1", "part 0 3 65535 0", "isTrue 0 -> 1", "isTrue 1 -> 1", "isTrue 2 -> 1", "isTrue 3 -> 1", "word 0 15 -> 8", "word 1 15 -> 7", "word 2 15 -> 15",
            "word 3 15 -> 0", "word 0 0 -> 0", "word 1 0 -> 15");
    }

    private void canHear() {
        e.of(12, "HEARERS (bits) who CAN HEAR a CALL, as KNOWN in an HOUR. BAD.",
            "canHear 0 0 -> BAD", "body 0 27 0 0 0", "pass 3", "call 0 0 0", "canHear 0 0 -> 0", "canHear 0 3 -> 0", "canHear 0 -1 -> BAD", "canHear 0 4 -> BAD",
            "canHear 0 MIN -> BAD", "canHear 0 MAX -> BAD", "canHear -1 0 -> BAD", "canHear 1 0 -> BAD", "canHear 20 0 -> BAD", "canHear MIN 0 -> BAD", "canHear MAX 0 -> BAD",
            "6 x hearer 27", "canHear 0 3 -> 63", "pass 1", "canHear 0 4 -> 63", "canHear 0 5 -> BAD");
        e.run("4 x pass 48", "pass 47", "body 0 27 0 0 0", "hearer 27", "call 0 0 0", "canHear 0 239 -> 1", "canHear 0 240 -> BAD", "canHear 0 0 -> 1");
    }

    private void part() {
        e.of(13, "A PART: how many. BAD: HEARER, CALL, heard (bits of 16); FULL.",
            "part 0 0 0 0 -> BAD", "body 0 0 0 0 0", "hearer 0", "part 0 0 0 0 -> BAD", "call 0 0 0", "part -1 0 0 0 -> BAD", "part 1 0 0 0 -> BAD", "part 6 0 0 0 -> BAD",
            "part MIN 0 0 0 -> BAD", "part MAX 0 0 0 -> BAD", "part 0 -1 0 0 -> BAD", "part 0 1 0 0 -> BAD", "part 0 20 0 0 -> BAD", "part 0 MIN 0 0 -> BAD",
            "part 0 MAX 0 0 -> BAD", "part 0 0 -1 0 -> BAD", "part 0 0 65536 0 -> BAD", "part 0 0 MIN 0 -> BAD", "part 0 0 MAX 0 -> BAD", "part 0 0 0 0 -> 1",
            "part 0 0 65535 0 -> 2", "38 x part 0 0 1 0 -> 3..", "part 0 0 1 0 -> FULL", "part 1 0 1 0 -> BAD", "part 0 1 1 0 -> BAD", "part 0 0 65536 0 -> BAD");
        e.of(13, "(words: any number.)",
            "body 0 0 0 0 0", "hearer 0", "call 0 0 0", "part 0 0 1 LMIN -> 1", "isTrue 0 -> 1", "part 0 0 32768 LMIN -> 2", "isTrue 1 -> 0", "word 0 15 -> 8",
            "part 0 0 2 LMAX -> 3", "word 0 1 -> 15", "part 0 0 4 -1 -> 4", "word 0 2 -> 15", "word 0 3 -> -1");
    }

    private void word() {
        e.of(14, "A WORD of a CALL, PUT TOGETHER. -3: no such CALL, WORD.",
            "word 0 0 -> -3", "body 0 0 0 0 0", "hearer 0", "call 0 0 0", "word 0 0 -> -1", "word 0 15 -> -1", "word 0 -1 -> -3", "word 0 16 -> -3", "word 0 32 -> -3",
            "word 0 MIN -> -3", "word 0 MAX -> -3", "word -1 0 -> -3", "word 1 0 -> -3", "word 20 0 -> -3", "word MIN 0 -> -3", "word MAX 0 -> -3", "part 0 0 65535 0",
            "word 0 0 -> 0", "word 0 15 -> 0", "word 0 16 -> -3");
    }

    private void isTrue() {
        e.of(15, "Whether a PART (by its number from 0) has just what was sent in all WORDS that it heard (1, 0). BAD.",
            "isTrue 0 -> BAD", "body 0 0 0 0 0", "hearer 0", "call 0 0 0x123", "part 0 0 7 0x123 -> 1", "isTrue -1 -> BAD", "isTrue 0 -> 1", "isTrue 1 -> BAD",
            "isTrue MIN -> BAD", "isTrue MAX -> BAD", "part 0 0 7 0x124 -> 2", "isTrue 1 -> 0", "part 0 0 6 0x124 -> 3", "isTrue 2 -> 1", "part 0 0 0 0x999 -> 4",
            "isTrue 3 -> 1", "part 0 0 32768 0x1000000000000123 -> 5", "isTrue 4 -> 0", "part 0 0 65535 0x123 -> 6", "isTrue 5 -> 1", "34 x part 0 0 0 0", "isTrue 39 -> 1",
            "isTrue 40 -> BAD");
    }
}
