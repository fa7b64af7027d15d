import java.util.ArrayList;
import java.util.HashSet;
import java.util.List;
import java.util.Set;

/**
 * Every call, with each of its numbers in turn at any edge, asked of objects with a long past: one that has some
 * of everything, one that is full of everything. Answers are those of PlainTent; what is refused, and what only
 * asks, changes nothing.
 */
public final class RefusedTest {
    private static final String[] SOME = {
        "pass 2", "body 1 27 3 200 50", "body 3 36 2 100 10", "body 4 9 1 50 5", "body 2 0 2 9 60", "body 5 63 1 5 90", "body 0 20 0 0 0",
        "wind 2 9 1313", "wind 4 6 3422", "fog 3 5 9", "fog 6 8 4", "pass 3", "fix 1 4 ~{36}", "fix 0 3 {18,26,27,28}", "hearer 27", "hearer 40",
        "wave 0 0 0 3", "wave 0 1 1 2", "wave 3 1 4 9", "call 0 0 0x123456789ABCDEF0", "call 3 3 -1", "pass 1", "call 1 0 77", "part 0 0 15 0xDEF0",
        "part 1 0 65535 0x123456789ABCDEF1", "part 1 2 255 77", "lane {18,19,20}", "lane {26,27,28,29}", "lane -1", "flown 3 0 0", "flown 4 0 1",
        "flown 4 1 2", "stays 2", "man 0 50 20 3", "man 0 10 60 9", "man 1 99 1 0", "man 0 10 60 8", "reads 'take skill;go far<hour;'",
        "reads 'take hurt-strength*2;go not far=1;'", "force 2", "feeds 'take 1;go '", "story 0 27 2", "story 0 28 3", "story 1 36 2", "story 1 63 5",
        "row 123456789012345", "row 99900099", "sheet 0 0 8", "sheet 1 0 6", "sheet 2 2 9", "cell 0 0 5", "cell 0 1 28", "cell 0 2 6", "cell 0 3 20",
        "cell 1 1 7", "cell 2 0 3", "cell 2 1 27", "cell 2 3 70000",
    };
    private static final String[] FULL = {
        "12 x body 3 27 1 900 9", "4 x pass 48", "29 x wind 200 201 2222", "wind 0 9 1313", "29 x fog 200 201 9", "fog 190 194 5", "40 x fix 0 9 -1",
        "6 x hearer 27", "wave 1 1 0 9", "20 x call 1 1 5", "40 x part 0 0 3 21", "16 x lane {27,28}", "16 x man 0 5 5 5", "5 x reads 'take 1;go 2;'",
        "20 x feed 8 0", "force 5", "20 x story 0 27 9", "4 x row 7", "stays 9", "4 x sheet 3 1 40",
    };
    private static final String[] SEEKERS_FULL = {
        "11 x body 5 27 1 900 9", "body 1 27 1 900 9", "16 x lane {27,28}", "6 x flown 0 11 3", "fog 0 1 3", "4 x sheet 3 1 40", "16 x man 0 5 5 5",
    };
    /** Each call with numbers that are taken in an object that has some of everything. */
    private static final String[] CALLS = {
        "pass 1", "wind 5 7 2323", "fog 5 7 3", "body 1 1 1 1 1", "bodyTold 0 4", "patch 0 6 6", "fix 0 6 -1", "hearer 1", "wave 1 1 1 1", "call 0 1 5",
        "canHear 0 6", "part 0 0 1 0", "word 0 0", "isTrue 0", "lane 1", "flown 3 0 0", "share 0 27 1", "parted 0 8 7 0", "stays 5", "comes 3 0 9 9",
        "last 3 0 9", "man 0 1 1 1", "feed 3 59", "text", "force 1", "says 0 0 0", "says 1 3 0", "first 0 0", "story 0 27 6", "unfit", "clash 0 1", "row 5",
        "days 3 20 1", "count 3", "sheet 0 1 4", "cell 0 1 9", "copy 0 1 1 2 3", "fixes 0 0 0 0 2", "taken 0 1",
    };
    private static final Set<String> QUESTIONS = Set.of("bodyTold", "patch", "canHear", "word", "isTrue", "share", "parted", "comes", "last",
        "says", "first", "unfit", "clash", "days", "count", "taken");
    private static final long[] EDGES = {
        Integer.MIN_VALUE, Integer.MIN_VALUE + 1, -100, -15, -3, -2, -1, 0, 1, 2, 3, 4, 5, 6, 7, 8, 9, 10, 11, 12, 15, 16, 17, 19, 20, 21, 39, 40, 41, 47,
        48, 49, 63, 64, 99, 100, 191, 192, 193, 239, 240, 241, 999, 1000, 4444, 4445, 9999, 10000, 32768, 65535, 65536, 1L << 30, Integer.MAX_VALUE - 1,
        Integer.MAX_VALUE,
    };
    private static final long[] LONG_EDGES = {
        Long.MIN_VALUE, -1, 0, 1, 999999999999999L, 1000000000000000L, Long.MAX_VALUE,
    };

    private final String name;
    private final List<Script.Line> past;
    private final Set<String> seen = new HashSet<>();
    private static int spared;

    private RefusedTest(String name, String... past) {
        this.name = name;
        this.past = Script.read(past);
    }

    public static void main(String[] args) {
        Check all = new Check("RefusedTest");
        new RefusedTest("with some of everything", SOME).run(all);
        new RefusedTest("full", FULL).run(all);
        new RefusedTest("full of seekers", SEEKERS_FULL).run(all);
        System.out.println("RefusedTest: " + spared + " calls changed nothing");
        all.finish();
    }

    private void run(Check all) {
        for (String told : CALLS) {
            Script.Line line = Script.read(told).get(0);
            ask(all, line.name(), line.args(), -1);
            for (int k = 0; k < line.args().length; k++) {
                long[] edges = Asked.takes(line.name())[k] == long.class ? LONG_EDGES : EDGES;
                for (long edge : edges) {
                    long[] given = line.args().clone();
                    given[k] = edge;
                    ask(all, line.name(), given, k);
                }
            }
        }
    }

    private Asked told(Asked x) {
        for (Script.Line line : past) {
            Script.ask(x, line);
        }
        return x;
    }

    private void ask(Check all, String call, long[] given, int turned) {
        StringBuilder words = new StringBuilder(call);
        for (long g : given) {
            words.append(' ').append(g);
        }
        long got = told(new Asked()).ask(call, given);
        all.due(name + ": " + words, got, told(Asked.plain()).ask(call, given));
        boolean refusal = got <= -1 && got >= -14 || got == RedTent.NO;
        boolean spares = refusal && !(call.equals("fixes") && got == -12) || QUESTIONS.contains(call);
        // one of each kind is enough: the probe is dear
        if (spares && seen.add(call + " " + turned + " " + (refusal ? got : 0))) {
            spared++;
            changesNothing(all, words.toString(), call, given);
        }
    }

    private void changesNothing(Check all, String words, String call, long[] given) {
        for (int part = 0; part < Probe.PARTS; part++) {
            Asked x = told(new Asked());
            x.ask(call, given);
            List<String> with = new ArrayList<>(Probe.of(x, part));
            all.holds(name + ": " + words + " changes nothing", with.equals(Probe.of(told(new Asked()), part)));
        }
    }
}
