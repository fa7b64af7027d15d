import java.util.Random;

/**
 * Long random runs of calls, each asked of RedTent and of PlainTent. Every run has its own leaning:
 * some stay within what is told, some try every edge and any number.
 */
public final class AgainstPlainTest {
    private static final int RUNS = 600, CALLS = 512, KINDS_OF_CALL = 39;
    private static final String[] SNIPS = {
        "take ", "go ", ";", ";", "1", "23", "4567", "99999", "strength", "hurt", "skill", "hour", "fuel", "far",
        " or ", " and ", " not ", "not ", "-", "+", "*", "<", "=", "(", ")", "((", "))", " ", "\n", "x", "A", "\t",
    };

    private static final String[][] JOINS = {{" or "}, {" and "}, {"<", "="}, {"+", "-"}, {"*"}};

    private final Random random;
    private final Check check;
    private final String run;
    private final int wild;
    private final int lazy;
    private final RedTent x = new RedTent();
    private final PlainTent p = new PlainTent();

    private AgainstPlainTest(int seed, Check check, int wild) {
        this.random = new Random(seed);
        this.check = check;
        this.run = "run " + seed;
        this.wild = wild;
        this.lazy = 1 + random.nextInt(12);
    }

    public static void main(String[] args) {
        Check check = new Check("AgainstPlainTest");
        int runs = args.length > 0 ? Integer.parseInt(args[0]) : RUNS;
        int from = args.length > 1 ? Integer.parseInt(args[1]) : 0;
        for (int seed = from; seed < from + runs; seed++) {
            new AgainstPlainTest(seed, check, seed % 4 == 3 ? 25 : seed % 4).go();
        }
        check.finish();
    }

    private void go() {
        for (int k = random.nextInt(4); k > 0; k--) {
            body();
        }
        for (int k = 0; k < CALLS; k++) {
            int kind = random.nextInt(KINDS_OF_CALL + 3);
            if (kind <= 1) {
                if (random.nextInt(lazy) == 0) {
                    pass();
                }
            } else if (kind < 12) {
                tell(kind);
            } else if (kind < 24) {
                ask(kind);
            } else {
                more(kind);
            }
        }
    }

    /** A number of lo .. hi, now and then one beside it, in wild runs any. */
    private int num(int lo, int hi) {
        int r = random.nextInt(100);
        if (r < wild) {
            int[] odd = {lo - 1, hi + 1, Integer.MIN_VALUE, Integer.MAX_VALUE, -1, 0, random.nextInt(), lo, hi};
            return odd[random.nextInt(odd.length)];
        }
        return hi < lo ? lo : (int) (lo + (random.nextInt() & 0x7FFFFFFFL) % ((long) hi - lo + 1));
    }

    private int anyBody() {
        return num(0, p.bodies.size() - 1);
    }

    private int anySeeker() {
        for (int k = 0; k < 12; k++) {
            int b = anyBody();
            if (!p.noSeeker(b)) {
                return b;
            }
        }
        return anyBody();
    }

    private int beginOf(int body) {
        return p.none(body) ? 0 : p.bodies.get(body).begin;
    }

    /** A cell in or near where a body can be. */
    private int nearCell(int body) {
        return p.none(body) || random.nextInt(3) == 0 ? num(0, 63)
            : Math.floorMod(p.bodies.get(body).cell + random.nextInt(5) - 2 + 8 * (random.nextInt(5) - 2), 64);
    }

    private long cells() {
        switch (random.nextInt(6)) {
            case 0: return random.nextLong();
            case 1: return random.nextLong() | random.nextLong();
            case 2: return -1L;
            case 3: return 1L << random.nextInt(64);
            case 4: return random.nextLong() & random.nextLong();
            default: return random.nextInt(8) == 0 ? 0 : random.nextLong() | random.nextLong() | random.nextLong();
        }
    }

    private void due(String call, long got, long want) {
        check.due(run + ": " + call, got, want);
    }

    private static String with(String name, long... args) {
        StringBuilder all = new StringBuilder(name).append('(');
        for (int k = 0; k < args.length; k++) {
            all.append(k == 0 ? "" : ", ").append(args[k]);
        }
        return all.append(')').toString();
    }

    private void pass() {
        int n = random.nextInt(3) == 0 ? num(1, 48) : num(1, 4);
        due(with("pass", n), x.pass(n), p.pass(n));
    }

    private void body() {
        int a = num(0, 5), b = num(0, 63), c = num(0, 20), d = num(0, random.nextBoolean() ? 99 : 9999), e = num(0, 99 + 300 * random.nextInt(4));
        due(with("body", a, b, c, d, e), x.body(a, b, c, d, e), p.body(a, b, c, d, e));
    }

    private int wind() {
        int a = random.nextInt(5), c = random.nextInt(5);
        int b = Math.min(4, a + random.nextInt(3)), d = Math.min(4, c + random.nextInt(3));
        return random.nextInt(100) < wild ? num(0, 4444) : 1000 * a + 100 * b + 10 * c + d;
    }

    private void tell(int kind) {
        int from = num(0, 239);
        int near = num(Math.max(0, p.hour - 6), Math.min(239, p.hour + 9));
        int start = random.nextBoolean() ? from : near;
        int end = start + 1 + random.nextInt(12);
        int b = anyBody();
        long set = cells();
        switch (kind) {
            case 2: {
                int by = wind();
                due(with("wind", start, end, by), x.wind(start, end, by), p.wind(start, end, by));
                break;
            }
            case 3: {
                int fog = num(0, 16);
                due(with("fog", start, end, fog), x.fog(start, end, fog), p.fog(start, end, fog));
                break;
            }
            case 4: body(); break;
            case 5: {
                int h = num(beginOf(b), p.hour);
                due(with("fix", b, h, set), x.fix(b, h, set), p.fix(b, h, set));
                break;
            }
            case 6: {
                int c = nearCell(b);
                due(with("hearer", c), x.hearer(c), p.hearer(c));
                break;
            }
            case 7: {
                int w = num(0, 3), n = num(0, 1), f = num(0, 9), t = num(f, 9);
                due(with("wave", w, n, f, t), x.wave(w, n, f, t), p.wave(w, n, f, t));
                break;
            }
            case 8: {
                int w = num(0, 3);
                long words = random.nextLong();
                due(with("call", b, w, words), x.call(b, w, words), p.call(b, w, words));
                break;
            }
            case 9: {
                int h = num(0, p.hearers.size() - 1), c = num(0, p.calls.size() - 1), bits = num(0, 65535);
                long sent = c >= 0 && c < p.calls.size() ? p.calls.get(c).words() : 0;
                long words = random.nextBoolean() ? sent : sent ^ 1L << random.nextInt(64);
                due(with("part", h, c, bits, words), x.part(h, c, bits, words), p.part(h, c, bits, words));
                break;
            }
            case 10: due(with("lane", set), x.lane(set), p.lane(set)); break;
            default: {
                int s = anySeeker(), l = num(0, p.lanes.size() - 1);
                due(with("flown", s, b, l), x.flown(s, b, l), p.flown(s, b, l));
            }
        }
    }

    private void ask(int kind) {
        int b = anyBody();
        int c = nearCell(b);
        switch (kind) {
            case 12: {
                int what = num(0, 8);
                due(with("bodyTold", b, what), x.bodyTold(b, what), p.bodyTold(b, what));
                break;
            }
            case 13: {
                int h = random.nextBoolean() ? num(beginOf(b), 239) : num(beginOf(b), Math.min(239, p.hour + 3));
                int known = num(0, p.hour);
                due(with("patch", b, h, known), x.patch(b, h, known), p.patch(b, h, known));
                break;
            }
            case 14: {
                int call = num(0, p.calls.size() - 1), known = num(0, p.hour);
                due(with("canHear", call, known), x.canHear(call, known), p.canHear(call, known));
                break;
            }
            case 15: {
                int call = num(0, p.calls.size() - 1), w = num(0, 15);
                due(with("word", call, w), x.word(call, w), p.word(call, w));
                break;
            }
            case 16: {
                int part = num(0, p.parts.size() - 1);
                due(with("isTrue", part), x.isTrue(part), p.isTrue(part));
                break;
            }
            case 17: {
                for (int part = 0; part < 2; part++) {
                    due(with("share", b, c, part), x.share(b, c, part), p.share(b, c, part));
                }
                int part = num(0, 1);
                due(with("share", b, c, part), x.share(b, c, part), p.share(b, c, part));
                break;
            }
            case 18: parted(b); break;
            case 19: {
                int n = num(0, 9);
                due(with("stays", n), x.stays(n), p.stays(n));
                break;
            }
            case 20: {
                int s = anySeeker(), from = num(0, 63), h = random.nextBoolean() ? num(0, 239) : p.hour;
                due(with("comes", s, from, c, h), x.comes(s, from, c, h), p.comes(s, from, c, h));
                break;
            }
            case 21: {
                int s = anySeeker(), from = num(0, 63);
                due(with("last", s, from, c), x.last(s, from, c), p.last(s, from, c));
                break;
            }
            case 22: {
                int s = num(0, 99), h = num(0, 99), k = num(0, 99);
                due(with("man", b, s, h, k), x.man(b, s, h, k), p.man(b, s, h, k));
                break;
            }
            default: {
                int t = num(0, p.texts.size() - 1);
                due(with("force", t), x.force(t), p.force(t));
            }
        }
    }

    private void parted(int b) {
        int seekers = 0;
        for (int k = random.nextInt(5); k > 0; k--) {
            seekers |= 1 << anySeeker();
        }
        int lanes = num(0, (1 << p.lanes.size()) - 1);
        if (random.nextInt(3) == 0) {
            lanes = (1 << p.lanes.size()) - 1;
        }
        if (random.nextInt(100) < wild) {
            seekers = num(0, 4095);
        }
        for (int i = -1; i < 3; i++) {
            due(with("parted", b, seekers, lanes, i), x.parted(b, seekers, lanes, i), p.parted(b, seekers, lanes, i));
        }
    }

    private void more(int kind) {
        int b = anyBody();
        switch (kind) {
            case 24: feedWords(); break;
            case 25: text(); break;
            case 26: {
                int part = num(0, 1), a = part == 0 ? num(0, p.men.size() - 1) : anySeeker();
                due(with("says", part, a, b), x.says(part, a, b), p.says(part, a, b));
                break;
            }
            case 27: {
                int i = num(0, 6);
                due(with("first", b, i), x.first(b, i), p.first(b, i));
                break;
            }
            case 28: {
                int c = nearCell(b), h = num(beginOf(b), p.hour);
                due(with("story", b, c, h), x.story(b, c, h), p.story(b, c, h));
                break;
            }
            case 29: due("unfit()", x.unfit(), p.unfit()); break;
            case 30: {
                int s = num(0, p.stories.size() - 1), t = num(0, p.stories.size() - 1);
                due(with("clash", s, t), x.clash(s, t), p.clash(s, t));
                break;
            }
            case 31: {
                long ice = random.nextInt(100) < wild ? random.nextLong() : (random.nextLong() >>> 1) % 1000000000000000L;
                due(with("row", ice), x.row(ice), p.row(ice));
                break;
            }
            case 32: {
                int n = num(1, 5), coal = random.nextBoolean() ? num(0, 99) : num(0, 25), i = num(-1, n);
                due(with("days", n, coal, i), x.days(n, coal, i), p.days(n, coal, i));
                break;
            }
            case 33: {
                int what = num(0, 14);
                due(with("count", what), x.count(what), p.count(what));
                break;
            }
            default: host(kind, b);
        }
    }

    private void host(int kind, int b) {
        int s = num(0, 3);
        switch (kind) {
            case 34: case 35: {
                int sort = num(-1, 2), n = num(0, 40);
                due(with("sheet", s, sort, n), x.sheet(s, sort, n), p.sheet(s, sort, n));
                break;
            }
            case 36: case 37: {
                int i = num(0, 12), v = random.nextInt(3) == 0 ? num(0, 300) : nearCell(b);
                due(with("cell", s, i, v), x.cell(s, i, v), p.cell(s, i, v));
                break;
            }
            case 38: case 39: {
                int i = num(0, 12), o = random.nextBoolean() ? s : num(0, 3), j = num(0, 12), n = num(0, 14);
                due(with("copy", s, i, o, j, n), x.copy(s, i, o, j, n), p.copy(s, i, o, j, n));
                break;
            }
            case 40: {
                int sort = num(0, 2), from = num(0, 20), n = random.nextBoolean() ? num(0, 20) : num(0, 3);
                due(with("fixes", b, s, sort, from, n), x.fixes(b, s, sort, from, n), p.fixes(b, s, sort, from, n));
                break;
            }
            default: {
                int k = num(0, 5);
                due(with("taken", b, k), x.taken(b, k), p.taken(b, k));
            }
        }
    }

    private void feed(String words) {
        for (int at = 0; at < words.length(); ) {
            int n = Math.min(1 + random.nextInt(8), words.length() - at);
            long bytes = random.nextLong() << 8 * (n - 1) << 8;
            for (int k = n - 1; k >= 0; k--) {
                bytes = bytes & -1L << 8 * k << 8 | bytes & (1L << 8 * k) - 1 | (long) (words.charAt(at + k) & 255) << 8 * k;
            }
            due(with("feed", n, bytes), x.feed(n, bytes), p.feed(n, bytes));
            at += n;
        }
    }

    private void feedWords() {
        if (random.nextInt(100) < wild) {
            int n = num(1, 8);
            long bytes = random.nextLong();
            due(with("feed", n, bytes), x.feed(n, bytes), p.feed(n, bytes));
        } else if (random.nextInt(4) == 0) {
            feed(SNIPS[random.nextInt(SNIPS.length)]);
        }
    }

    private void text() {
        String words = "take " + some(0, 3) + ";go " + some(0, 3) + ";";
        if (random.nextInt(2) == 0) {
            int at = random.nextInt(words.length() + 1);
            int end = Math.min(words.length(), at + random.nextInt(4));
            words = words.substring(0, at) + (random.nextBoolean() ? "" : SNIPS[random.nextInt(SNIPS.length)]) + words.substring(end);
        }
        feed(words);
        String tape = p.tape.toString();
        due("text() of '" + tape + "'", x.text(), p.text());
        int t = p.texts.size() - 1;
        due(with("force", t), x.force(t), p.force(t));
    }

    /** An E of the grammar, nested deeper than may be now and then. Levels: or, and, not, sum, term, one. */
    private String some(int level, int depth) {
        if (level == 5) {
            return someOne(depth);
        }
        if (level == 2 && random.nextInt(5) == 0) {
            return "not " + some(2, depth - 1);
        }
        StringBuilder all = new StringBuilder(some(level + 1, depth));
        int joined = random.nextInt(5) == 0 ? 1 + random.nextInt(2) : 0;
        for (int k = 0; k < (level == 2 ? Math.min(joined, 1) : joined); k++) {
            all.append(JOINS[level][random.nextInt(JOINS[level].length)]).append(some(level + 1, depth));
        }
        return all.toString();
    }

    private String someOne(int depth) {
        switch (random.nextInt(depth <= 0 && random.nextInt(3) > 0 || depth < -4 ? 2 : 5)) {
            case 0: return "" + random.nextInt(random.nextBoolean() ? 10 : 10000);
            case 1: return SNIPS[8 + random.nextInt(6)];
            case 2: return "-" + someOne(depth - 1);
            default: return "(" + some(0, depth - 1) + ")";
        }
    }
}
