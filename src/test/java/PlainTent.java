import java.math.BigInteger;
import java.util.ArrayList;
import java.util.Arrays;
import java.util.List;
import java.util.TreeSet;

/**
 * The document written down a second time, as literally and slowly as can be: lists of what was told,
 * sets of cells, exact fractions, nothing kept from call to call. It is what RedTent is held against.
 */
final class PlainTent {
    static final int NONE = -1, BAD = -2, STATE = -3, FULL = -4;
    static final long NO = -4611686018427387904L;

    record Span(int from, int to, int a, int b, int c, int d) { }
    record Fix(int body, int hour, int told, TreeSet<Integer> cells) { }
    record Call(int body, int wave, int hour, long words) { }
    record Part(int call, int heard, long words) { }
    record Flown(int body, int lane, int hour) { }
    record Man(int body, int strength, int hurt, int skill) { }
    record Story(int body, int cell, int hour) { }
    record Parsed(Node take, Node go) { }

    static final class Body {
        int kind, cell, begin, men, food, fuel;
    }

    interface Node {
        int value(int[] names);
    }

    static final class Fault extends Exception {
        final int place;

        Fault(int place) {
            this.place = place;
        }
    }

    int hour;
    int stayHours;
    int order;
    final List<Span> winds = new ArrayList<>();
    final List<Span> fogs = new ArrayList<>();
    final List<Body> bodies = new ArrayList<>();
    final List<Fix> fixList = new ArrayList<>();
    final List<Integer> hearers = new ArrayList<>();
    final int[][][] waves = new int[4][2][2];
    final List<Call> calls = new ArrayList<>();
    final List<Part> parts = new ArrayList<>();
    final List<TreeSet<Integer>> lanes = new ArrayList<>();
    final List<Flown> flights = new ArrayList<>();
    final List<Man> men = new ArrayList<>();
    final StringBuilder tape = new StringBuilder();
    final List<Parsed> texts = new ArrayList<>();
    final List<Story> stories = new ArrayList<>();
    final List<Long> rows = new ArrayList<>();
    final Object[] sheets = new Object[4];

    PlainTent() {
        try {
            texts.add(new PlainReader("take hurt * 2 - strength ; go far * 6 < fuel ;").read());
        } catch (Fault f) {
            throw new IllegalStateException(f);
        }
    }

    // ---- the ice

    int pass(int n) {
        if (n < 1 || n > 48) return BAD;
        if (hour + n > 239) return FULL;
        for (int k = 0; k < n; k++) {
            for (Body b : bodies) b.food = Math.max(0, b.food - eats(b));
            hour++;
        }
        return hour;
    }

    static boolean badHours(int from, int to) {
        return from < 0 || from > 240 || to < 0 || to > 240 || to <= from;
    }

    int wind(int from, int to, int by) {
        if (badHours(from, to) || by < 0 || by > 9999) return BAD;
        String digits = String.format("%04d", by);
        int[] v = new int[4];
        for (int k = 0; k < 4; k++) {
            v[k] = digits.charAt(k) - '0' - 2;
            if (v[k] > 2) return BAD;
        }
        if (v[0] > v[1] || v[2] > v[3]) return BAD;
        if (winds.size() == 30) return FULL;
        winds.add(new Span(from, to, v[0], v[1], v[2], v[3]));
        return winds.size();
    }

    int fog(int from, int to, int fog) {
        if (badHours(from, to) || fog < 0 || fog > 16) return BAD;
        if (fogs.size() == 30) return FULL;
        fogs.add(new Span(from, to, fog, 0, 0, 0));
        return fogs.size();
    }

    int fogIn(int h) {
        for (int k = fogs.size() - 1; k >= 0; k--) {
            if (fogs.get(k).from <= h && h < fogs.get(k).to) return fogs.get(k).a;
        }
        return 0;
    }

    Span windIn(int h) {
        for (int k = winds.size() - 1; k >= 0; k--) {
            if (winds.get(k).from <= h && h < winds.get(k).to) return winds.get(k);
        }
        return new Span(0, 0, 0, 0, 0, 0);
    }

    static int apart(int x, int y) {
        return Math.max(Math.abs((x & 7) - (y & 7)), Math.abs((x >> 3) - (y >> 3)));
    }

    static long bits(TreeSet<Integer> set) {
        long all = 0;
        for (int c : set) all |= 1L << c;
        return all;
    }

    static TreeSet<Integer> set(long bits) {
        TreeSet<Integer> all = new TreeSet<>();
        for (int c = 0; c < 64; c++) if ((bits & 1L << c) != 0) all.add(c);
        return all;
    }

    static boolean cellOk(int c) {
        return c >= 0 && c <= 63;
    }

    // ---- bodies

    int eats(Body b) {
        switch (b.kind) {
            case 1: return b.men;
            case 3: return b.men + 1;
            case 4: return 2 * b.men;
            case 5: return 1;
            default: return 0;
        }
    }

    int burns(Body b) {
        return b.kind == 2 ? 1 + 2 : b.kind == 5 ? 2 * (1 + 2) : 1;
    }

    boolean none(int body) {
        return body < 0 || body >= bodies.size();
    }

    boolean noSeeker(int body) {
        return none(body) || bodies.get(body).kind != 2 && bodies.get(body).kind != 5;
    }

    int body(int kind, int cell, int menIn, int food, int fuel) {
        if (kind < 0 || kind > 5 || !cellOk(cell) || menIn < 0 || menIn > 20) return BAD;
        if (food < 0 || food > 9999 || fuel < 0 || fuel > 999) return BAD;
        if (bodies.size() == 12) return FULL;
        Body b = new Body();
        b.kind = kind;
        b.cell = cell;
        b.begin = hour;
        b.men = menIn;
        b.food = food;
        b.fuel = fuel;
        bodies.add(b);
        return bodies.size() - 1;
    }

    int bodyTold(int body, int what) {
        if (none(body) || what < 0 || what > 8) return BAD;
        Body b = bodies.get(body);
        int lasts = hour;
        int left = b.food;
        while (eats(b) > 0 && left >= eats(b)) {
            left -= eats(b);
            lasts++;
        }
        if (eats(b) == 0) lasts = 9999;
        return new int[] {b.kind, b.cell, b.begin, b.men, b.food, b.fuel, eats(b), burns(b), lasts}[what];
    }

    TreeSet<Integer> drift(Body b, int h, TreeSet<Integer> from) {
        Span w = windIn(h);
        int wide = b.kind == 3 || b.kind == 4 && h % 4 == 0 ? 1 : 0;
        TreeSet<Integer> to = new TreeSet<>();
        for (int c : from) {
            if (b.kind == 2) {
                to.add(c);
                continue;
            }
            for (int dx = w.a - wide; dx <= w.b + wide; dx++) {
                for (int dy = w.c - wide; dy <= w.d + wide; dy++) {
                    int x = c % 8 + dx;
                    int y = c / 8 + dy;
                    if (x >= 0 && x < 8 && y >= 0 && y < 8) to.add(8 * y + x);
                }
            }
        }
        return to;
    }

    TreeSet<Integer> places(int body, int h, int known) {
        Body b = bodies.get(body);
        TreeSet<Integer> at = new TreeSet<>();
        at.add(b.cell);
        for (int t = b.begin; ; t++) {
            for (Fix f : fixList) {
                if (f.body == body && f.hour == t && f.told <= known) at.retainAll(f.cells);
            }
            if (t == h) return at;
            at = drift(b, t, at);
        }
    }

    long patch(int body, int h, int known) {
        if (none(body) || h < bodies.get(body).begin || h > 239 || known < 0 || known > hour) return NO;
        return bits(places(body, h, known));
    }

    int fix(int body, int h, long cells) {
        if (none(body) || h < bodies.get(body).begin || h > hour) return BAD;
        if (fixList.size() == 40) return FULL;
        fixList.add(new Fix(body, h, hour, set(cells)));
        return fixList.size();
    }

    // ---- calls

    int hearer(int cell) {
        if (!cellOk(cell)) return BAD;
        if (hearers.size() == 6) return FULL;
        hearers.add(cell);
        return hearers.size() - 1;
    }

    int wave(int wave, int night, int from, int to) {
        if (wave < 0 || wave > 3 || night < 0 || night > 1 || from < 0 || from > 9 || to < 0 || to > 9) return BAD;
        if (to < from) return BAD;
        int[] was = waves[wave][night];
        waves[wave][night] = new int[] {from, to};
        return 10 * was[0] + was[1];
    }

    int call(int body, int wave, long words) {
        if (none(body) || wave < 0 || wave > 3) return BAD;
        if (calls.size() == 20) return FULL;
        calls.add(new Call(body, wave, hour, words));
        return calls.size() - 1;
    }

    int canHear(int call, int known) {
        if (call < 0 || call >= calls.size() || known < 0 || known > hour) return BAD;
        Call c = calls.get(call);
        int clock = c.hour % 24;
        int[] heard = waves[c.wave][clock >= 6 && clock <= 17 ? 0 : 1];
        int all = 0;
        for (int cell : places(c.body, c.hour, known)) {
            for (int k = 0; k < hearers.size(); k++) {
                int far = apart(cell, hearers.get(k));
                if (heard[0] <= far && far <= heard[1]) all |= 1 << k;
            }
        }
        return all;
    }

    int part(int hearer, int call, int heard, long words) {
        if (hearer < 0 || hearer >= hearers.size() || call < 0 || call >= calls.size()) return BAD;
        if (heard < 0 || heard > 0xFFFF) return BAD;
        if (parts.size() == 40) return FULL;
        parts.add(new Part(call, heard, words));
        return parts.size();
    }

    static char digit(long words, int k) {
        return String.format("%016x", words).charAt(15 - k);
    }

    int word(int call, int word) {
        if (call < 0 || call >= calls.size() || word < 0 || word > 15) return -3;
        TreeSet<Character> heard = new TreeSet<>();
        for (Part p : parts) {
            if (p.call == call && (p.heard & 1 << word) != 0) heard.add(digit(p.words, word));
        }
        return heard.isEmpty() ? -1 : heard.size() > 1 ? -2 : Character.digit(heard.first(), 16);
    }

    int isTrue(int part) {
        if (part < 0 || part >= parts.size()) return BAD;
        Part p = parts.get(part);
        for (int k = 0; k < 16; k++) {
            if ((p.heard & 1 << k) != 0 && digit(p.words, k) != digit(calls.get(p.call).words, k)) return 0;
        }
        return 1;
    }

    // ---- lanes

    int lane(long cells) {
        if (cells == 0) return BAD;
        if (lanes.size() == 16) return FULL;
        lanes.add(set(cells));
        return lanes.size() - 1;
    }

    int flown(int seeker, int body, int lane) {
        if (noSeeker(seeker) || none(body) || lane < 0 || lane >= lanes.size()) return BAD;
        int were = 0;
        for (Flown f : flights) if (f.body == body) were++;
        if (were == 6) return FULL;
        flights.add(new Flown(body, lane, hour));
        return were + 1;
    }

    /** Weights above 16 to the 6th. */
    BigInteger[] weights(int body) {
        BigInteger[] all = new BigInteger[64];
        Arrays.fill(all, BigInteger.ZERO);
        for (int c : places(body, hour, hour)) {
            all[c] = BigInteger.valueOf(1 << 24);
            for (Flown f : flights) {
                if (f.body == body && lanes.get(f.lane).contains(c)) {
                    all[c] = all[c].multiply(BigInteger.valueOf(fogIn(f.hour))).divide(BigInteger.valueOf(16));
                }
            }
        }
        return all;
    }

    static BigInteger sum(BigInteger[] all) {
        BigInteger s = BigInteger.ZERO;
        for (BigInteger w : all) s = s.add(w);
        return s;
    }

    long share(int body, int cell, int part) {
        if (none(body) || !cellOk(cell) || part < 0 || part > 1) return NO;
        BigInteger[] all = weights(body);
        BigInteger below = sum(all);
        if (all[cell].signum() == 0) return part;
        BigInteger g = all[cell].gcd(below);
        return (part == 0 ? all[cell] : below).divide(g).longValueExact();
    }

    int parted(int body, int seekers, int laneBits, int i) {
        if (none(body)) return BAD;
        int wanted = Integer.bitCount(seekers);
        for (int k = 0; k < 32; k++) {
            if ((seekers & 1 << k) != 0 && noSeeker(k)) return BAD;
            if ((laneBits & 1 << k) != 0 && k >= lanes.size()) return BAD;
        }
        if (wanted > 3) return BAD;
        if (Integer.bitCount(laneBits) < wanted) return STATE;
        if (i < -1 || i >= wanted) return NONE;
        BigInteger[] all = weights(body);
        BigInteger best = null;
        int[] bestRow = null;
        int total = 1;
        for (int k = 0; k < wanted; k++) total *= 16;
        for (int code = 0; code < total; code++) {
            int[] row = new int[wanted];
            int rest = code;
            for (int k = wanted - 1; k >= 0; k--) {
                row[k] = rest % 16;
                rest /= 16;
            }
            if (!isRow(row, laneBits)) continue;
            BigInteger seen = seen(row, all);
            if (best == null || seen.compareTo(best) > 0) {
                best = seen;
                bestRow = row;
            }
        }
        if (i >= 0) return bestRow[i];
        BigInteger below = sum(all);
        return below.signum() == 0 ? 0 : best.multiply(BigInteger.valueOf(1000)).divide(below).intValueExact();
    }

    private static boolean isRow(int[] row, int laneBits) {
        for (int k = 0; k < row.length; k++) {
            if ((laneBits & 1 << row[k]) == 0) return false;
            for (int j = 0; j < k; j++) if (row[j] == row[k]) return false;
        }
        return true;
    }

    private BigInteger seen(int[] row, BigInteger[] all) {
        TreeSet<Integer> cells = new TreeSet<>();
        for (int lane : row) cells.addAll(lanes.get(lane));
        BigInteger s = BigInteger.ZERO;
        for (int c : cells) s = s.add(all[c]);
        return s;
    }

    // ---- there and back, who is first

    int stays(int n) {
        if (n < 0 || n > 9) return BAD;
        int was = stayHours;
        stayHours = n;
        return was;
    }

    private boolean flies(int from, int hours) {
        for (int h = from; h < from + hours; h++) if (fogIn(h) > 8) return false;
        return true;
    }

    int comes(int seeker, int from, int to, int h) {
        if (noSeeker(seeker) || !cellOk(from) || !cellOk(to) || h < 0 || h > 239) return BAD;
        Body b = bodies.get(seeker);
        int far = apart(from, to);
        if (burns(b) * 2 * far > b.fuel || !flies(h, far)) return NONE;
        int back = h + far;
        int lain = 0;
        while (!flies(back, far)) {
            back++;
            lain++;
            if (lain > stayHours) return NONE;
        }
        return back + far > 239 ? NONE : back + far;
    }

    int last(int seeker, int from, int to) {
        if (noSeeker(seeker) || !cellOk(from) || !cellOk(to)) return BAD;
        int found = NONE;
        for (int h = 0; h < 240; h++) if (comes(seeker, from, to, h) >= 0) found = h;
        return found;
    }

    int man(int body, int strength, int hurt, int skill) {
        if (none(body) || strength < 0 || strength > 99 || hurt < 0 || hurt > 99 || skill < 0 || skill > 99) return BAD;
        if (men.size() == 16) return FULL;
        men.add(new Man(body, strength, hurt, skill));
        return men.size() - 1;
    }

    int feed(int n, long bytes) {
        if (n < 1 || n > 8) return BAD;
        if (tape.length() + n > 160) return FULL;
        for (int k = 0; k < n; k++) tape.append((char) (bytes >> 8 * k & 0xFF));
        return tape.length();
    }

    int text() {
        if (texts.size() == 6) return FULL;
        String read = tape.toString();
        tape.setLength(0);
        try {
            texts.add(new PlainReader(read).read());
            return texts.size() - 1;
        } catch (Fault f) {
            return -100 - f.place;
        }
    }

    int force(int text) {
        if (text < 0 || text >= texts.size()) return BAD;
        int was = order;
        order = text;
        return was;
    }

    int take(Man m) {
        int[] names = {m.strength, m.hurt, m.skill, hour, bodies.get(m.body).fuel, 0};
        return texts.get(order).take.value(names);
    }

    long says(int part, int a, int b) {
        if (part == 0) return a < 0 || a >= men.size() ? NO : take(men.get(a));
        if (part != 1 || noSeeker(a) || none(b)) return NO;
        int far = 99;
        for (int c : places(b, hour, hour)) far = Math.min(far, apart(c, bodies.get(a).cell));
        return texts.get(order).go.value(new int[] {0, 0, 0, hour, bodies.get(a).fuel, far});
    }

    int first(int body, int i) {
        if (none(body)) return BAD;
        List<Integer> row = new ArrayList<>();
        for (int k = 0; k < men.size(); k++) if (men.get(k).body == body) row.add(k);
        row.sort((p, q) -> Integer.compare(take(men.get(q)), take(men.get(p))));
        return i < 0 || i >= row.size() ? NONE : row.get(i);
    }

    // ---- stories, the breaker

    int story(int body, int cell, int h) {
        if (none(body) || !cellOk(cell) || h < bodies.get(body).begin || h > hour) return BAD;
        if (stories.size() == 20) return FULL;
        stories.add(new Story(body, cell, h));
        return stories.size() - 1;
    }

    int unfit() {
        int all = 0;
        for (int k = 0; k < stories.size(); k++) {
            Story s = stories.get(k);
            if (!places(s.body, s.hour, hour).contains(s.cell)) all |= 1 << k;
        }
        return all;
    }

    int clash(int a, int b) {
        if (a < 0 || a >= stories.size() || b < 0 || b >= stories.size() || a == b) return BAD;
        Story p = stories.get(a);
        Story q = stories.get(b);
        if (p.body != q.body) return BAD;
        if (p.hour == q.hour) return p.cell == q.cell ? 0 : 1;
        Story early = p.hour < q.hour ? p : q;
        Story late = early == p ? q : p;
        TreeSet<Integer> at = new TreeSet<>(List.of(early.cell));
        for (int h = early.hour; h < late.hour; h++) at = drift(bodies.get(p.body), h, at);
        return at.contains(late.cell) ? 0 : 1;
    }

    int row(long ice) {
        if (ice < 0 || Long.toString(ice).length() > 15) return BAD;
        if (rows.size() == 4) return FULL;
        rows.add(ice);
        return rows.size() - 1;
    }

    int days(int n, int coal, int i) {
        if (n < 1 || n > 5 || coal < 0 || coal > 99) return BAD;
        if (i < -1 || i >= n) return NONE;
        int best = -1;
        String bestWays = "";
        int total = (int) Math.pow(3, n);
        for (int code = 0; code < total; code++) {
            StringBuilder ways = new StringBuilder(Integer.toString(code, 3));
            while (ways.length() < n) ways.insert(0, '0');
            int least = rows.isEmpty() ? 0 : 999;
            for (long ice : rows) least = Math.min(least, goes(ice, ways, coal));
            if (least > best) {
                best = least;
                bestWays = ways.toString();
            }
        }
        return i == -1 ? best : bestWays.charAt(i) - '0';
    }

    private static int goes(long ice, CharSequence ways, int coal) {
        String digits = new StringBuilder(String.format("%015d", ice)).reverse().toString();
        int cells = 0;
        int left = coal;
        for (int day = 0; day < ways.length(); day++) {
            int thick = digits.charAt(3 * day + ways.charAt(day) - '0') - '0';
            if (thick + 1 <= left) {
                left -= thick + 1;
                cells += 9 - thick;
            }
        }
        return cells;
    }

    int count(int what) {
        int[] all = {hour, bodies.size(), winds.size(), fixList.size(), hearers.size(), calls.size(), parts.size(),
            lanes.size(), men.size(), stories.size(), rows.size(), texts.size(), tape.length(), order, stayHours};
        return what < 0 || what >= all.length ? BAD : all[what];
    }

    // ---- the host: real arrays, and what the machine throws at them

    int sheet(int sheet, int sort, int n) {
        if (sheet < 0 || sheet > 3 || sort < -1 || sort > 2) return BAD;
        if (sort >= 0 && n > 40) return BAD;
        try {
            sheets[sheet] = sort == -1 ? null : sort == 0 ? new byte[n] : sort == 1 ? new short[n] : (Object) new int[n];
            return 1;
        } catch (NegativeArraySizeException e) {
            return -14;
        }
    }

    int cell(int sheet, int i, int v) {
        if (sheet < 0 || sheet > 3) return BAD;
        Object s = sheets[sheet];
        if (s == null) return -11;
        try {
            if (s instanceof byte[] row) row[i] = (byte) v;
            else if (s instanceof short[] row) row[i] = (short) v;
            else ((int[]) s)[i] = v;
            return 1;
        } catch (ArrayIndexOutOfBoundsException e) {
            return -12;
        }
    }

    int copy(int sheet, int i, int other, int j, int n) {
        if (sheet < 0 || sheet > 3 || other < 0 || other > 3) return BAD;
        try {
            System.arraycopy(sheets[sheet], i, sheets[other], j, n);
            return n;
        } catch (NullPointerException e) {
            return -11;
        } catch (ArrayStoreException e) {
            return -13;
        } catch (IndexOutOfBoundsException e) {
            return -12;
        }
    }

    int fixes(int body, int sheet, int sort, int from, int n) {
        if (none(body) || sheet < 0 || sheet > 3 || sort < 0 || sort > 2 || n < 0 || n > 20) return BAD;
        int came = 0;
        try {
            Object s = sheets[sheet];
            byte[] bytes = sort == 0 ? (byte[]) s : null;
            short[] shorts = sort == 1 ? (short[]) s : null;
            int[] ints = sort == 2 ? (int[]) s : null;
            if (s == null) return -11;
            for (int k = 0; k < n; k++) {
                int at = from + 2 * k;
                int h = sort == 0 ? bytes[at] : sort == 1 ? shorts[at] : ints[at];
                int c = sort == 0 ? bytes[at + 1] : sort == 1 ? shorts[at + 1] : ints[at + 1];
                if (cellOk(c) && fix(body, h, 1L << c) > 0) came++;
            }
            return came;
        } catch (ClassCastException e) {
            return -13;
        } catch (ArrayIndexOutOfBoundsException e) {
            return -12;
        }
    }

    int taken(int body, int k) {
        if (k < 0 || k > 5) return BAD;
        if (none(body)) return -11;
        int kind = bodies.get(body).kind;
        boolean is = kind == k || k == 0 || k == 1 && (kind == 3 || kind == 4) || k == 2 && kind == 5;
        return is ? bodies.get(body).men : -13;
    }
}
