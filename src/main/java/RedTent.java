/**
 * A red tent on the ice: who drifts where, who heard whom, where was looked in vain,
 * who is taken first and who can come there and back. The promises stand in DOC.md.
 */
public final class RedTent {
    public static final int NONE = -1, BAD = -2, STATE = -3, FULL = -4;
    public static final long NO = -4611686018427387904L;

    private static final int NOTHING = -11, OUTSIDE = -12, UNLIKE = -13, BELOW_ZERO = -14;

    private static final int CELLS = 64, SIDE = 8, HOURS = 240;
    private static final int MAX_WINDS = 30, MAX_FOGS = 30, MAX_BODIES = 12, MAX_FIXES = 40;
    private static final int MAX_HEARERS = 6, WAVES = 4, MAX_CALLS = 20, MAX_PARTS = 40, WORDS = 16;
    private static final int MAX_LANES = 16, MAX_FLOWN = 6, MAX_PARTED = 3;
    private static final int MAX_MEN = 16, MAX_TAPE = 160, MAX_TEXTS = 6, MAX_OPEN = 5;
    private static final int NAMES = 6, MAX_STACK = 64;
    private static final int MAX_STORIES = 20, MAX_ROWS = 4, DAYS = 5, WAYS = 3;
    private static final int SHEETS = 4, MAX_ITEMS = 40, MAX_PAIRS = 20;
    private static final int CLEAR_FOG = 8, THICKEST_FOG = 16;

    private static final int SEEKER = 2, FLOE = 3, WALKERS = 4, KINDS = 6;
    /** The kind that each kind stands under; the first one stands under none. */
    private static final int[] UNDER = {-1, 0, 0, 1, 1, 2};
    private static final int[] EATS_A_MAN = {0, 1, 0, 1, 2, 0};
    private static final int[] EATS_BESIDE = {0, 0, 0, 1, 0, 1};
    private static final int[] BURNS = {1, 1, 3, 1, 1, 6};

    private final Weather weather = new Weather();
    private final Body[] bodies = new Body[MAX_BODIES];
    private final Radio radio = new Radio();
    private final Search search = new Search();
    private final Crew crew = new Crew();
    private final Orders orders = new Orders();
    private final Stories stories = new Stories();
    private final Breaker breaker = new Breaker();
    private final Sheet[] sheets = new Sheet[SHEETS];
    private int now;
    private int bodyCount;
    private int fixCount;
    private int stayHours;

    public RedTent() {
        for (int k = 0; k < SHEETS; k++) {
            sheets[k] = new Sheet();
        }
    }

    // ---- the ice

    public int pass(int n) {
        if (n < 1 || n > 48) {
            return BAD;
        }
        if (now + n >= HOURS) {
            return FULL;
        }
        for (int k = 0; k < bodyCount; k++) {
            Body eater = bodyAt(k);
            if (eater != null) {
                eater.eatFor(n);
            }
        }
        now += n;
        return now;
    }

    public int wind(int from, int to, int by) {
        if (!isSpan(from, to) || !isWind(by)) {
            return BAD;
        }
        if (weather.windCount >= MAX_WINDS) {
            return FULL;
        }
        weather.tellWind(from, to, by);
        for (int k = 0; k < bodyCount; k++) {
            Body drifter = bodyAt(k);
            if (drifter != null) {
                drifter.forgetBehind(from);
            }
        }
        return weather.windCount;
    }

    public int fog(int from, int to, int fog) {
        if (!isSpan(from, to) || fog < 0 || fog > THICKEST_FOG) {
            return BAD;
        }
        if (weather.fogCount >= MAX_FOGS) {
            return FULL;
        }
        weather.tellFog(from, to, fog);
        return weather.fogCount;
    }

    // ---- bodies

    public int body(int kind, int cell, int men, int food, int fuel) {
        if (kind < 0 || kind >= KINDS || !isCell(cell) || men < 0 || men > 20
                || food < 0 || food > 9999 || fuel < 0 || fuel > 999) {
            return BAD;
        }
        if (bodyCount >= MAX_BODIES) {
            return FULL;
        }
        bodies[bodyCount] = new Body(kind, cell, now, men, food, fuel);
        return bodyCount++;
    }

    public int bodyTold(int body, int what) {
        Body asked = bodyAt(body);
        if (asked == null) {
            return BAD;
        }
        switch (what) {
            case 0: return asked.kind;
            case 1: return asked.start;
            case 2: return asked.begin;
            case 3: return asked.men;
            case 4: return asked.food;
            case 5: return asked.fuel;
            case 6: return asked.eats();
            case 7: return asked.burns();
            case 8: return asked.foodLasts(now);
            default: return BAD;
        }
    }

    public long patch(int body, int hour, int known) {
        Body asked = bodyAt(body);
        if (asked == null || hour < asked.begin || hour >= HOURS || !isPast(known)) {
            return NO;
        }
        return asked.placesKnown(weather, hour, known);
    }

    public int fix(int body, int hour, long cells) {
        Body fixed = bodyAt(body);
        if (fixed == null || hour < fixed.begin || hour > now) {
            return BAD;
        }
        if (fixCount >= MAX_FIXES) {
            return FULL;
        }
        fixed.narrowBy(hour, now, cells);
        return ++fixCount;
    }

    // ---- calls

    public int hearer(int cell) {
        if (!isCell(cell)) {
            return BAD;
        }
        if (radio.hearers >= MAX_HEARERS) {
            return FULL;
        }
        return radio.addHearer(cell);
    }

    public int wave(int wave, int night, int from, int to) {
        if (wave < 0 || wave >= WAVES || night < 0 || night > 1 || from < 0 || from > 9 || to < from || to > 9) {
            return BAD;
        }
        return radio.setWave(2 * wave + night, from, to);
    }

    public int call(int body, int wave, long words) {
        if (bodyAt(body) == null || wave < 0 || wave >= WAVES) {
            return BAD;
        }
        if (radio.calls >= MAX_CALLS) {
            return FULL;
        }
        return radio.addCall(body, wave, now, words);
    }

    public int canHear(int call, int known) {
        if (!radio.hasCall(call) || !isPast(known)) {
            return BAD;
        }
        Body sender = bodyAt(radio.callBody[call]);
        if (sender == null) {
            return BAD;
        }
        return radio.hearersOf(call, sender.placesKnown(weather, radio.callHour[call], known));
    }

    public int part(int hearer, int call, int heard, long words) {
        if (hearer < 0 || hearer >= radio.hearers || !radio.hasCall(call) || heard < 0 || heard >= 1 << WORDS) {
            return BAD;
        }
        if (radio.parts >= MAX_PARTS) {
            return FULL;
        }
        return radio.addPart(call, heard, words);
    }

    public int word(int call, int word) {
        if (!radio.hasCall(call) || word < 0 || word >= WORDS) {
            return STATE;
        }
        return radio.putTogether(call, word);
    }

    public int isTrue(int part) {
        if (part < 0 || part >= radio.parts) {
            return BAD;
        }
        return radio.isAsSent(part) ? 1 : 0;
    }

    // ---- lanes

    public int lane(long cells) {
        if (cells == 0) {
            return BAD;
        }
        if (search.laneCount >= MAX_LANES) {
            return FULL;
        }
        return search.addLane(cells);
    }

    public int flown(int seeker, int body, int lane) {
        Body sought = bodyAt(body);
        if (seekerAt(seeker) == null || sought == null || lane < 0 || lane >= search.laneCount) {
            return BAD;
        }
        if (sought.flownCount >= MAX_FLOWN) {
            return FULL;
        }
        return sought.addFlown(lane, now);
    }

    public long share(int body, int cell, int part) {
        Body sought = bodyAt(body);
        if (sought == null || !isCell(cell) || part < 0 || part > 1) {
            return NO;
        }
        search.weigh(sought, sought.placesNow(weather, now), weather);
        return search.shareOf(cell, part);
    }

    public int parted(int body, int seekers, int lanes, int i) {
        Body sought = bodyAt(body);
        if (sought == null || !areSeekers(seekers) || lanes < 0 || lanes >= 1 << search.laneCount) {
            return BAD;
        }
        int wanted = Integer.bitCount(seekers);
        if (Integer.bitCount(lanes) < wanted) {
            return STATE;
        }
        if (i < -1 || i >= wanted) {
            return NONE;
        }
        search.weigh(sought, sought.placesNow(weather, now), weather);
        search.choose(lanes, wanted);
        return i == -1 ? search.thousandths() : search.chosen[i];
    }

    // ---- there and back, who is first

    public int stays(int n) {
        if (n < 0 || n > 9) {
            return BAD;
        }
        int was = stayHours;
        stayHours = n;
        return was;
    }

    public int comes(int seeker, int from, int to, int hour) {
        Body flier = seekerAt(seeker);
        if (flier == null || !isCell(from) || !isCell(to) || hour < 0 || hour >= HOURS) {
            return BAD;
        }
        return backFrom(flier, apart(from, to), hour);
    }

    public int last(int seeker, int from, int to) {
        Body flier = seekerAt(seeker);
        if (flier == null || !isCell(from) || !isCell(to)) {
            return BAD;
        }
        int far = apart(from, to);
        for (int hour = HOURS - 1; hour >= 0; hour--) {
            if (backFrom(flier, far, hour) != NONE) {
                return hour;
            }
        }
        return NONE;
    }

    public int man(int body, int strength, int hurt, int skill) {
        if (bodyAt(body) == null || !isMark(strength) || !isMark(hurt) || !isMark(skill)) {
            return BAD;
        }
        if (crew.men >= MAX_MEN) {
            return FULL;
        }
        return crew.addMan(body, strength, hurt, skill);
    }

    public int feed(int n, long bytes) {
        if (n < 1 || n > 8) {
            return BAD;
        }
        if (orders.tapeSize + n > MAX_TAPE) {
            return FULL;
        }
        return orders.addBytes(n, bytes);
    }

    public int text() {
        return orders.readTape();
    }

    public int force(int text) {
        if (text < 0 || text >= orders.textCount) {
            return BAD;
        }
        int was = orders.inForce;
        orders.inForce = text;
        return was;
    }

    public long says(int part, int a, int b) {
        if (part == 0 && a >= 0 && a < crew.men) {
            return takeOf(a);
        }
        Body flier = seekerAt(a);
        Body sought = bodyAt(b);
        if (part != 1 || flier == null || sought == null) {
            return NO;
        }
        int far = nearest(flier.start, sought.placesNow(weather, now));
        return orders.ask(1, 0, 0, 0, now, flier.fuel, far);
    }

    public int first(int body, int i) {
        if (bodyAt(body) == null) {
            return BAD;
        }
        for (int k = 0; k < crew.men; k++) {
            crew.takes[k] = takeOf(k);
        }
        return crew.inTurn(body, i);
    }

    // ---- stories, the breaker

    public int story(int body, int cell, int hour) {
        Body teller = bodyAt(body);
        if (teller == null || !isCell(cell) || hour < teller.begin || hour > now) {
            return BAD;
        }
        if (stories.told >= MAX_STORIES) {
            return FULL;
        }
        return stories.addStory(body, cell, hour);
    }

    public int unfit() {
        int bits = 0;
        for (int k = 0; k < stories.told; k++) {
            Body teller = bodyAt(stories.body[k]);
            if (teller != null && !has(teller.placesNow(weather, stories.hour[k]), stories.cell[k])) {
                bits |= 1 << k;
            }
        }
        return bits;
    }

    public int clash(int a, int b) {
        if (!stories.hasStory(a) || !stories.hasStory(b) || a == b || stories.body[a] != stories.body[b]) {
            return BAD;
        }
        Body teller = bodyAt(stories.body[a]);
        if (teller == null) {
            return BAD;
        }
        int early = stories.hour[a] <= stories.hour[b] ? a : b;
        int late = early == a ? b : a;
        long places = 1L << stories.cell[early];
        for (int h = stories.hour[early]; h < stories.hour[late]; h++) {
            places = teller.driftIn(weather, h, places);
        }
        return has(places, stories.cell[late]) ? 0 : 1;
    }

    public int row(long ice) {
        if (ice < 0 || ice > 999999999999999L) {
            return BAD;
        }
        if (breaker.rowCount >= MAX_ROWS) {
            return FULL;
        }
        return breaker.addRow(ice);
    }

    public int days(int n, int coal, int i) {
        if (n < 1 || n > DAYS || coal < 0 || coal > 99) {
            return BAD;
        }
        if (i < -1 || i >= n) {
            return NONE;
        }
        breaker.plan(n, coal);
        return i == -1 ? breaker.bestCells : breaker.wayOn(i, n, breaker.bestWays);
    }

    public int count(int what) {
        switch (what) {
            case 0: return now;
            case 1: return bodyCount;
            case 2: return weather.windCount;
            case 3: return fixCount;
            case 4: return radio.hearers;
            case 5: return radio.calls;
            case 6: return radio.parts;
            case 7: return search.laneCount;
            case 8: return crew.men;
            case 9: return stories.told;
            case 10: return breaker.rowCount;
            case 11: return orders.textCount;
            case 12: return orders.tapeSize;
            case 13: return orders.inForce;
            case 14: return stayHours;
            default: return BAD;
        }
    }

    // ---- the host

    public int sheet(int sheet, int sort, int n) {
        Sheet made = sheetAt(sheet);
        if (made == null || sort < Sheet.MISSING || sort >= Sheet.SORTS) {
            return BAD;
        }
        if (sort == Sheet.MISSING) {
            made.become(sort, 0);
            return 1;
        }
        if (n > MAX_ITEMS) {
            return BAD;
        }
        if (n < 0) {
            return BELOW_ZERO;
        }
        made.become(sort, n);
        return 1;
    }

    public int cell(int sheet, int i, int v) {
        Sheet written = sheetAt(sheet);
        if (written == null) {
            return BAD;
        }
        if (written.sort == Sheet.MISSING) {
            return NOTHING;
        }
        if (!written.hasItem(i)) {
            return OUTSIDE;
        }
        written.put(i, v);
        return 1;
    }

    public int copy(int sheet, int i, int other, int j, int n) {
        Sheet source = sheetAt(sheet);
        Sheet target = sheetAt(other);
        if (source == null || target == null) {
            return BAD;
        }
        if (source.sort == Sheet.MISSING || target.sort == Sheet.MISSING) {
            return NOTHING;
        }
        if (source.sort != target.sort) {
            return UNLIKE;
        }
        if (!source.hasStretch(i, n) || !target.hasStretch(j, n)) {
            return OUTSIDE;
        }
        System.arraycopy(source.items, i, target.items, j, n);
        return n;
    }

    public int fixes(int body, int sheet, int sort, int from, int n) {
        Body fixed = bodyAt(body);
        Sheet source = sheetAt(sheet);
        if (fixed == null || source == null || sort < 0 || sort >= Sheet.SORTS || n < 0 || n > MAX_PAIRS) {
            return BAD;
        }
        if (source.sort != Sheet.MISSING && source.sort != sort) {
            return UNLIKE;
        }
        if (source.sort == Sheet.MISSING) {
            return NOTHING;
        }
        int came = 0;
        int at = from;
        for (int k = 0; k < n; k++) {
            if (!source.hasStretch(at, 2)) {
                return OUTSIDE;
            }
            int cell = source.items[at + 1];
            if (isCell(cell) && fix(body, source.items[at], 1L << cell) > 0) {
                came++;
            }
            at += 2;
        }
        return came;
    }

    public int taken(int body, int k) {
        if (k < 0 || k >= KINDS) {
            return BAD;
        }
        Body asked = bodyAt(body);
        if (asked == null) {
            return NOTHING;
        }
        return asked.isUnder(k) ? asked.men : UNLIKE;
    }

    // ---- what several calls share

    private Body bodyAt(int number) {
        return number >= 0 && number < bodyCount && number < bodies.length ? bodies[number] : null;
    }

    private Body seekerAt(int number) {
        Body found = bodyAt(number);
        return found != null && found.isUnder(SEEKER) ? found : null;
    }

    private Sheet sheetAt(int number) {
        return number >= 0 && number < sheets.length ? sheets[number] : null;
    }

    private boolean isPast(int hour) {
        return hour >= 0 && hour <= now;
    }

    private boolean areSeekers(int bits) {
        if (bits < 0 || bits >= 1 << bodyCount || Integer.bitCount(bits) > MAX_PARTED) {
            return false;
        }
        for (int k = 0; k < bodyCount; k++) {
            if ((bits >> k & 1) != 0 && seekerAt(k) == null) {
                return false;
            }
        }
        return true;
    }

    /** The hour in which one who leaves in an hour is back, or NONE. */
    private int backFrom(Body flier, int far, int hour) {
        if (flier.burns() * 2 * far > flier.fuel || !weather.isClear(hour, far)) {
            return NONE;
        }
        for (int lain = 0; lain <= stayHours; lain++) {
            int leaves = hour + far + lain;
            if (weather.isClear(leaves, far)) {
                return leaves + far < HOURS ? leaves + far : NONE;
            }
        }
        return NONE;
    }

    private int takeOf(int man) {
        if (man < 0 || man >= crew.men) {
            return 0;
        }
        Body home = bodyAt(crew.body[man]);
        int fuel = home == null ? 0 : home.fuel;
        return orders.ask(0, crew.strength[man], crew.hurt[man], crew.skill[man], now, fuel, 0);
    }

    private static boolean isCell(int cell) {
        return cell >= 0 && cell < CELLS;
    }

    private static boolean isMark(int mark) {
        return mark >= 0 && mark <= 99;
    }

    private static boolean isSpan(int from, int to) {
        return from >= 0 && to > from && to <= HOURS;
    }

    private static boolean isWind(int by) {
        if (by < 0 || by > 4444) {
            return false;
        }
        int a = by / 1000;
        int b = by / 100 % 10;
        int c = by / 10 % 10;
        int d = by % 10;
        return b <= 4 && c <= 4 && d <= 4 && a <= b && c <= d;
    }

    private static boolean has(long places, int cell) {
        return (places >>> cell & 1L) != 0;
    }

    private static int apart(int one, int other) {
        int columns = Math.abs(one % SIDE - other % SIDE);
        int rows = Math.abs(one / SIDE - other / SIDE);
        return Math.max(columns, rows);
    }

    /** How far the nearest of some places is; 99 if there are none. */
    private static int nearest(int cell, long places) {
        int least = 99;
        for (int k = 0; k < CELLS; k++) {
            if (has(places, k)) {
                least = Math.min(least, apart(cell, k));
            }
        }
        return least;
    }

    /** Places moved by columns, fewer than 8 either way; what leaves the ice is gone. */
    private static long byColumns(long places, int by) {
        long everyRow = 0x0101010101010101L;
        if (by >= 0) {
            return (places & everyRow * (0xFF >> by)) << by;
        }
        return (places & everyRow * (0xFF << -by & 0xFF)) >>> -by;
    }

    /** Places moved by rows, fewer than 8 either way; what leaves the ice is gone. */
    private static long byRows(long places, int by) {
        return by >= 0 ? places << SIDE * by : places >>> SIDE * -by;
    }

    /** What is told of wind and fog, hour by hour: what is told later overwrites. */
    private static final class Weather {
        static final int CALM = 2222;

        final int[] windBy = new int[HOURS];
        final int[] fogIn = new int[HOURS];
        int windCount;
        int fogCount;

        Weather() {
            for (int h = 0; h < HOURS; h++) {
                windBy[h] = CALM;
            }
        }

        void tellWind(int from, int to, int by) {
            setHours(windBy, from, to, by);
            windCount++;
        }

        void tellFog(int from, int to, int fog) {
            setHours(fogIn, from, to, fog);
            fogCount++;
        }

        private static void setHours(int[] row, int from, int to, int value) {
            for (int h = Math.max(from, 0); h < to && h < row.length; h++) {
                row[h] = value;
            }
        }

        int fogAt(int hour) {
            return hour >= 0 && hour < HOURS ? fogIn[hour] : 0;
        }

        boolean isClear(int from, int hours) {
            for (int h = from; h < from + hours; h++) {
                if (fogAt(h) > CLEAR_FOG) {
                    return false;
                }
            }
            return true;
        }

        /** Where one can be behind an hour, if the wind's span is wider by so much at each end. */
        long blow(int hour, long places, int wider) {
            int by = hour >= 0 && hour < HOURS ? windBy[hour] : CALM;
            if (by == CALM && wider == 0) {
                return places;
            }
            long across = 0;
            for (int k = by / 1000 - 2 - wider; k <= by / 100 % 10 - 2 + wider; k++) {
                across |= byColumns(places, k);
            }
            long all = 0;
            for (int k = by / 10 % 10 - 2 - wider; k <= by % 10 - 2 + wider; k++) {
                all |= byRows(across, k);
            }
            return all;
        }
    }

    /** One of the bodies, with its fixes and the lanes flown for it. */
    private static final class Body {
        final int kind;
        final int start;
        final int begin;
        final int men;
        final int fuel;
        int food;

        final int[] fixHour = new int[MAX_FIXES];
        final int[] fixTold = new int[MAX_FIXES];
        final long[] fixCells = new long[MAX_FIXES];
        int fixed;

        final int[] flownLane = new int[MAX_FLOWN];
        final int[] flownHour = new int[MAX_FLOWN];
        int flownCount;

        /** Patches by all fixes, right up to the hour sureTo: so that no hour is drifted twice. */
        final long[] patches = new long[HOURS];
        int sureTo;

        Body(int kind, int start, int begin, int men, int food, int fuel) {
            this.kind = kind;
            this.start = start;
            this.begin = begin;
            this.men = men;
            this.food = food;
            this.fuel = fuel;
            this.sureTo = begin - 1;
        }

        int eats() {
            return men * EATS_A_MAN[kind] + EATS_BESIDE[kind];
        }

        int burns() {
            return BURNS[kind];
        }

        void eatFor(int hours) {
            food = Math.max(0, food - hours * eats());
        }

        int foodLasts(int hour) {
            int meal = eats();
            return meal == 0 ? 9999 : hour + food / meal;
        }

        boolean isUnder(int wanted) {
            int is = kind;
            for (int k = 0; k < KINDS && is > 0 && is != wanted; k++) {
                is = UNDER[is];
            }
            return is == wanted;
        }

        long driftIn(Weather weather, int hour, long places) {
            if (kind == SEEKER) {
                return places;
            }
            boolean wide = kind == FLOE || kind == WALKERS && hour % 4 == 0;
            return weather.blow(hour, places, wide ? 1 : 0);
        }

        void narrowBy(int hour, int told, long cells) {
            if (fixed < MAX_FIXES) {
                fixHour[fixed] = hour;
                fixTold[fixed] = told;
                fixCells[fixed] = cells;
                fixed++;
                forgetBehind(hour - 1);
            }
        }

        void forgetBehind(int hour) {
            sureTo = Math.max(begin - 1, Math.min(sureTo, hour));
        }

        int addFlown(int lane, int hour) {
            flownLane[flownCount] = lane;
            flownHour[flownCount] = hour;
            return ++flownCount;
        }

        long placesKnown(Weather weather, int hour, int known) {
            int heeded = 0;
            while (heeded < fixed && fixTold[heeded] <= known) {
                heeded++;
            }
            if (heeded == fixed) {
                return placesNow(weather, hour);
            }
            long places = narrowed(1L << start, begin, heeded);
            for (int h = begin; h < hour; h++) {
                places = narrowed(driftIn(weather, h, places), h + 1, heeded);
            }
            return places;
        }

        long placesNow(Weather weather, int hour) {
            if (hour < begin || hour >= HOURS) {
                return 0;
            }
            for (int h = sureTo + 1; h <= hour; h++) {
                long come = h <= begin ? 1L << start : driftIn(weather, h - 1, patches[h - 1]);
                patches[h] = narrowed(come, h, fixed);
            }
            sureTo = Math.max(sureTo, hour);
            return patches[hour];
        }

        private long narrowed(long places, int hour, int heeded) {
            long left = places;
            for (int k = 0; k < heeded; k++) {
                if (fixHour[k] == hour) {
                    left &= fixCells[k];
                }
            }
            return left;
        }
    }

    /** Hearers, waves, calls and what was heard of them. */
    private static final class Radio {
        final int[] hearerCell = new int[MAX_HEARERS];
        int hearers;

        /** Two rows for each wave: by day, then by night. */
        final int[] heardFrom = new int[2 * WAVES];
        final int[] heardTo = new int[2 * WAVES];

        final int[] callBody = new int[MAX_CALLS];
        final int[] callWave = new int[MAX_CALLS];
        final int[] callHour = new int[MAX_CALLS];
        final long[] callWords = new long[MAX_CALLS];
        int calls;

        final int[] partCall = new int[MAX_PARTS];
        final int[] partHeard = new int[MAX_PARTS];
        final long[] partWords = new long[MAX_PARTS];
        int parts;

        int addHearer(int cell) {
            hearerCell[hearers] = cell;
            return hearers++;
        }

        int setWave(int at, int from, int to) {
            int was = 10 * heardFrom[at] + heardTo[at];
            heardFrom[at] = from;
            heardTo[at] = to;
            return was;
        }

        boolean hasCall(int number) {
            return number >= 0 && number < calls;
        }

        int addCall(int body, int wave, int hour, long words) {
            callBody[calls] = body;
            callWave[calls] = wave;
            callHour[calls] = hour;
            callWords[calls] = words;
            return calls++;
        }

        int addPart(int call, int heard, long words) {
            partCall[parts] = call;
            partHeard[parts] = heard;
            partWords[parts] = words;
            return ++parts;
        }

        int hearersOf(int call, long places) {
            int ofDay = callHour[call] % 24;
            int at = 2 * callWave[call] + (ofDay < 6 || ofDay > 17 ? 1 : 0);
            int bits = 0;
            for (int k = 0; k < hearers; k++) {
                if (isAnyApart(places, hearerCell[k], heardFrom[at], heardTo[at])) {
                    bits |= 1 << k;
                }
            }
            return bits;
        }

        private static boolean isAnyApart(long places, int cell, int from, int to) {
            for (int k = 0; k < CELLS; k++) {
                int far = apart(cell, k);
                if (has(places, k) && far >= from && far <= to) {
                    return true;
                }
            }
            return false;
        }

        int putTogether(int call, int word) {
            int sure = -1;
            for (int k = 0; k < parts; k++) {
                if (partCall[k] == call && (partHeard[k] >> word & 1) != 0) {
                    int heard = digit(partWords[k], word);
                    if (sure != -1 && sure != heard) {
                        return -2;
                    }
                    sure = heard;
                }
            }
            return sure;
        }

        boolean isAsSent(int part) {
            long sent = callWords[partCall[part]];
            for (int k = 0; k < WORDS; k++) {
                if ((partHeard[part] >> k & 1) != 0 && digit(partWords[part], k) != digit(sent, k)) {
                    return false;
                }
            }
            return true;
        }

        private static int digit(long words, int word) {
            return (int) (words >>> 4 * word & 15L);
        }
    }

    /** Lanes, how much each cell weighs for one who is sought, and which lanes see most. */
    private static final class Search {
        final long[] lanes = new long[MAX_LANES];
        int laneCount;

        final long[] weights = new long[CELLS];
        long allWeight;

        final int[] tried = new int[MAX_PARTED];
        final int[] chosen = new int[MAX_PARTED];
        long chosenWeight;

        int addLane(long cells) {
            lanes[laneCount] = cells;
            return laneCount++;
        }

        void weigh(Body sought, long places, Weather weather) {
            allWeight = 0;
            for (int c = 0; c < CELLS; c++) {
                weights[c] = has(places, c) ? weightIn(sought, c, weather) : 0;
                allWeight += weights[c];
            }
        }

        /** Every lane flown multiplies each cell by sixteenths, so that weights stay whole. */
        private long weightIn(Body sought, int cell, Weather weather) {
            long weight = 1;
            for (int k = 0; k < sought.flownCount; k++) {
                boolean over = has(lanes[sought.flownLane[k]], cell);
                weight *= over ? weather.fogAt(sought.flownHour[k]) : THICKEST_FOG;
            }
            return weight;
        }

        long shareOf(int cell, int part) {
            if (weights[cell] == 0 || allWeight == 0) {
                return part;
            }
            long common = commonDivisor(allWeight, weights[cell]);
            return (part == 0 ? weights[cell] : allWeight) / common;
        }

        private static long commonDivisor(long one, long other) {
            long a = one;
            long b = other;
            for (int k = 0; k < 200 && b != 0; k++) {
                long rest = a % b;
                a = b;
                b = rest;
            }
            return a == 0 ? 1 : a;
        }

        int thousandths() {
            return allWeight == 0 ? 0 : (int) (1000 * chosenWeight / allWeight);
        }

        void choose(int allowed, int wanted) {
            chosenWeight = -1;
            tryLanes(allowed, wanted, 0, 0, 0L);
        }

        /** Only rising rows of lanes are tried: of rows with the same lanes they are the first. */
        private void tryLanes(int allowed, int wanted, int place, int least, long seen) {
            if (place >= wanted || place >= MAX_PARTED) {
                keepIfBetter(seen);
                return;
            }
            for (int k = least; k < laneCount; k++) {
                if ((allowed >> k & 1) != 0) {
                    tried[place] = k;
                    tryLanes(allowed, wanted, place + 1, k + 1, seen | lanes[k]);
                }
            }
        }

        private void keepIfBetter(long seen) {
            long weight = 0;
            for (int c = 0; c < CELLS; c++) {
                if (has(seen, c)) {
                    weight += weights[c];
                }
            }
            if (weight > chosenWeight) {
                chosenWeight = weight;
                System.arraycopy(tried, 0, chosen, 0, MAX_PARTED);
            }
        }
    }

    /** The men who were told one by one. */
    private static final class Crew {
        final int[] body = new int[MAX_MEN];
        final int[] strength = new int[MAX_MEN];
        final int[] hurt = new int[MAX_MEN];
        final int[] skill = new int[MAX_MEN];
        final int[] takes = new int[MAX_MEN];
        int men;

        int addMan(int ofBody, int hisStrength, int hisHurt, int hisSkill) {
            body[men] = ofBody;
            strength[men] = hisStrength;
            hurt[men] = hisHurt;
            skill[men] = hisSkill;
            return men++;
        }

        int inTurn(int ofBody, int i) {
            for (int k = 0; k < men; k++) {
                if (body[k] == ofBody && aheadOf(k) == i) {
                    return k;
                }
            }
            return NONE;
        }

        private int aheadOf(int man) {
            int ahead = 0;
            for (int k = 0; k < men; k++) {
                boolean sooner = takes[k] > takes[man] || takes[k] == takes[man] && k < man;
                if (body[k] == body[man] && sooner) {
                    ahead++;
                }
            }
            return ahead;
        }
    }

    /** The tape, the texts read from it, and the one in force. */
    private static final class Orders {
        final int[] tape = new int[MAX_TAPE];
        int tapeSize;
        final Text[] texts = new Text[MAX_TEXTS];
        int textCount;
        int inForce;
        final Reader reader = new Reader();
        final int[] names = new int[NAMES];
        final int[] stack = new int[MAX_STACK];

        Orders() {
            for (int k = 0; k < MAX_TEXTS; k++) {
                texts[k] = new Text();
            }
            texts[0].beFirst();
            textCount = 1;
        }

        int addBytes(int n, long bytes) {
            for (int k = 0; k < n && tapeSize < MAX_TAPE; k++) {
                tape[tapeSize] = (int) (bytes >>> 8 * k & 255L);
                tapeSize++;
            }
            return tapeSize;
        }

        int readTape() {
            if (textCount >= MAX_TEXTS) {
                return FULL;
            }
            int fault = reader.readAll(tape, tapeSize);
            tapeSize = 0;
            if (fault >= 0) {
                return -100 - fault;
            }
            texts[textCount].become(reader.made);
            return textCount++;
        }

        int ask(int part, int strength, int hurt, int skill, int hour, int fuel, int far) {
            names[0] = strength;
            names[1] = hurt;
            names[2] = skill;
            names[3] = hour;
            names[4] = fuel;
            names[5] = far;
            return texts[inForce].valueOf(part, names, stack);
        }
    }

    /** A text that was read: steps of a stack machine, first those of take, then those of go. */
    private static final class Text {
        /** A step of 0 or more puts that number, one of a name puts its value, others work on what was put. */
        static final int STRENGTH = -1, HURT = -2, FUEL = -5, FAR = -6;
        static final int OR = -11, AND = -12, NOT = -13, LESS = -14, SAME = -15;
        static final int PLUS = -16, MINUS = -17, TIMES = -18, NEGATE = -19;

        /** Text 0: take hurt * 2 - strength ; go far * 6 < fuel ; */
        static final int[] FIRST_TAKE = {HURT, 2, TIMES, STRENGTH, MINUS};
        static final int[] FIRST_GO = {FAR, 6, TIMES, FUEL, LESS};

        final int[] steps = new int[MAX_TAPE];
        int size;
        int goFrom;

        void clear() {
            size = 0;
            goFrom = 0;
        }

        void beFirst() {
            clear();
            for (int k = 0; k < FIRST_TAKE.length; k++) {
                addStep(FIRST_TAKE[k]);
            }
            goFrom = size;
            for (int k = 0; k < FIRST_GO.length; k++) {
                addStep(FIRST_GO[k]);
            }
        }

        void become(Text other) {
            System.arraycopy(other.steps, 0, steps, 0, MAX_TAPE);
            size = other.size;
            goFrom = other.goFrom;
        }

        void addStep(int step) {
            if (size < MAX_TAPE) {
                steps[size] = step;
                size++;
            }
        }

        int valueOf(int part, int[] names, int[] stack) {
            int from = part == 0 ? 0 : goFrom;
            int to = part == 0 ? goFrom : size;
            int top = 0;
            for (int k = from; k < to; k++) {
                top = afterStep(steps[k], names, stack, top);
            }
            return top > 0 ? stack[0] : 0;
        }

        /** Does one step; answers how many numbers stand on the stack behind it. */
        private static int afterStep(int step, int[] names, int[] stack, int top) {
            if (step >= FAR) {
                return put(step >= 0 ? step : names[-1 - step], stack, top);
            }
            if (step == NOT || step == NEGATE) {
                if (top > 0) {
                    stack[top - 1] = step == NEGATE ? -stack[top - 1] : truth(stack[top - 1] == 0);
                }
                return top;
            }
            if (top < 2) {
                return top;
            }
            stack[top - 2] = joined(step, stack[top - 2], stack[top - 1]);
            return top - 1;
        }

        private static int put(int value, int[] stack, int top) {
            if (top >= stack.length) {
                return top;
            }
            stack[top] = value;
            return top + 1;
        }

        private static int joined(int step, int left, int right) {
            switch (step) {
                case OR: return truth(left != 0 || right != 0);
                case AND: return truth(left != 0 && right != 0);
                case LESS: return truth(left < right);
                case SAME: return truth(left == right);
                case PLUS: return left + right;
                case MINUS: return left - right;
                default: return left * right;
            }
        }

        private static int truth(boolean is) {
            return is ? 1 : 0;
        }
    }

    /** Cuts a tape into tokens and reads them; the first that can't stand where it is, is the fault. */
    private static final class Reader {
        /** Tokens: 1 to 11 are the words as spelt by nthWord, signs are their own bytes. */
        static final int WRONG = -1, END = 0, TAKE = 7, GO = 8, OR = 9, AND = 10, NOT = 11, NUMBER = 12;
        static final int LAST_WORD = NOT, LONGEST_NUMBER = 4;

        int[] bytes = new int[0];
        int size;

        final int[] tokens = new int[MAX_TAPE + 1];
        final int[] starts = new int[MAX_TAPE + 1];
        final int[] numbers = new int[MAX_TAPE + 1];

        final Text made = new Text();
        int at;
        int fault;

        /** Reads a whole text into made; answers the place of its fault, or -1. */
        int readAll(int[] tape, int tapeSize) {
            bytes = tape;
            size = Math.min(tapeSize, tape.length);
            cutTokens();
            made.clear();
            at = 0;
            fault = -1;
            need(TAKE);
            readChoice(0);
            need(';');
            made.goFrom = made.size;
            need(GO);
            readChoice(0);
            need(';');
            need(END);
            return fault;
        }

        private boolean sees(int wanted) {
            return fault < 0 && tokens[at] == wanted;
        }

        private void advance() {
            if (at < MAX_TAPE && tokens[at] != END) {
                at++;
            }
        }

        private void fail() {
            if (fault < 0) {
                fault = starts[at];
            }
        }

        private void need(int wanted) {
            if (sees(wanted)) {
                advance();
            } else {
                fail();
            }
        }

        private void readChoice(int open) {
            readBoth(open);
            for (int k = 0; k < MAX_TAPE && sees(OR); k++) {
                advance();
                readBoth(open);
                made.addStep(Text.OR);
            }
        }

        private void readBoth(int open) {
            readNot(open);
            for (int k = 0; k < MAX_TAPE && sees(AND); k++) {
                advance();
                readNot(open);
                made.addStep(Text.AND);
            }
        }

        private void readNot(int open) {
            if (sees(NOT) && open >= MAX_OPEN) {
                fail();
            } else if (sees(NOT)) {
                advance();
                readNot(open + 1);
                made.addStep(Text.NOT);
            } else {
                readCompared(open);
            }
        }

        private void readCompared(int open) {
            readSum(open);
            if (sees('<') || sees('=')) {
                int step = sees('<') ? Text.LESS : Text.SAME;
                advance();
                readSum(open);
                made.addStep(step);
            }
        }

        private void readSum(int open) {
            readTerm(open);
            for (int k = 0; k < MAX_TAPE && (sees('+') || sees('-')); k++) {
                int step = sees('+') ? Text.PLUS : Text.MINUS;
                advance();
                readTerm(open);
                made.addStep(step);
            }
        }

        private void readTerm(int open) {
            readOne(open);
            for (int k = 0; k < MAX_TAPE && sees('*'); k++) {
                advance();
                readOne(open);
                made.addStep(Text.TIMES);
            }
        }

        private void readOne(int open) {
            if (sees(NUMBER)) {
                made.addStep(numbers[at]);
                advance();
            } else if (fault < 0 && tokens[at] > END && tokens[at] <= NAMES) {
                made.addStep(-tokens[at]);
                advance();
            } else if (sees('-') && open < MAX_OPEN) {
                advance();
                readOne(open + 1);
                made.addStep(Text.NEGATE);
            } else if (sees('(') && open < MAX_OPEN) {
                advance();
                readChoice(open + 1);
                need(')');
            } else {
                fail();
            }
        }

        private void cutTokens() {
            int count = 0;
            int place = 0;
            while (place < size && count < MAX_TAPE) {
                if (isBlank(bytes[place])) {
                    place++;
                } else {
                    starts[count] = place;
                    place = cutOne(count, place);
                    count++;
                }
            }
            tokens[count] = END;
            starts[count] = size;
        }

        /** Cuts a token from a place on; answers the place behind it. */
        private int cutOne(int token, int place) {
            int end = place;
            int number = 0;
            while (end < size && isLetter(bytes[end])) {
                end++;
            }
            if (end > place) {
                tokens[token] = wordOf(place, end);
                return end;
            }
            while (end < size && isDigit(bytes[end])) {
                number = number * 10 + bytes[end] - '0';
                end++;
            }
            if (end > place) {
                tokens[token] = end - place <= LONGEST_NUMBER ? NUMBER : WRONG;
                numbers[token] = number;
                return end;
            }
            tokens[token] = isSign(bytes[place]) ? bytes[place] : WRONG;
            return place + 1;
        }

        private int wordOf(int place, int end) {
            for (int k = 1; k <= LAST_WORD; k++) {
                if (isSpelt(nthWord(k), place, end)) {
                    return k;
                }
            }
            return WRONG;
        }

        private boolean isSpelt(String word, int place, int end) {
            if (word.length() != end - place) {
                return false;
            }
            for (int k = 0; k < word.length(); k++) {
                if (word.charAt(k) != bytes[place + k]) {
                    return false;
                }
            }
            return true;
        }

        private static boolean isBlank(int sign) {
            return sign == 32 || sign == 10;
        }

        private static boolean isLetter(int sign) {
            return sign >= 'a' && sign <= 'z';
        }

        private static boolean isDigit(int sign) {
            return sign >= '0' && sign <= '9';
        }

        private static boolean isSign(int sign) {
            return sign >= '(' && sign <= '+' || sign == '-' || sign >= ';' && sign <= '=';
        }

        private static String nthWord(int n) {
            switch (n) {
                case 1: return "strength";
                case 2: return "hurt";
                case 3: return "skill";
                case 4: return "hour";
                case 5: return "fuel";
                case 6: return "far";
                case TAKE: return "take";
                case GO: return "go";
                case OR: return "or";
                case AND: return "and";
                default: return "not";
            }
        }
    }

    /** Who was said to be where and when. */
    private static final class Stories {
        final int[] body = new int[MAX_STORIES];
        final int[] cell = new int[MAX_STORIES];
        final int[] hour = new int[MAX_STORIES];
        int told;

        boolean hasStory(int number) {
            return number >= 0 && number < told;
        }

        int addStory(int ofBody, int inCell, int inHour) {
            body[told] = ofBody;
            cell[told] = inCell;
            hour[told] = inHour;
            return told++;
        }
    }

    /** Rows of told ice, and the ways that are best if the worst of them comes. */
    private static final class Breaker {
        static final int[] POWERS_OF_3 = {1, 3, 9, 27, 81, 243};

        final int[][] ice = new int[MAX_ROWS][DAYS * WAYS];
        int rowCount;
        int bestCells;
        /** Ways as digits to the base 3, the first day's the highest. */
        int bestWays;

        int addRow(long digits) {
            long rest = digits;
            for (int k = 0; k < DAYS * WAYS; k++) {
                ice[rowCount][k] = (int) (rest % 10);
                rest /= 10;
            }
            return rowCount++;
        }

        void plan(int days, int coal) {
            bestCells = -1;
            bestWays = 0;
            for (int ways = 0; ways < POWERS_OF_3[days]; ways++) {
                int cells = leastCells(days, coal, ways);
                if (cells > bestCells) {
                    bestCells = cells;
                    bestWays = ways;
                }
            }
        }

        int wayOn(int day, int days, int ways) {
            return ways / POWERS_OF_3[days - 1 - day] % WAYS;
        }

        private int leastCells(int days, int coal, int ways) {
            int least = rowCount == 0 ? 0 : 9 * DAYS;
            for (int row = 0; row < rowCount; row++) {
                least = Math.min(least, cellsThrough(row, days, coal, ways));
            }
            return least;
        }

        private int cellsThrough(int row, int days, int coal, int ways) {
            int cells = 0;
            int left = coal;
            for (int day = 0; day < days; day++) {
                int thick = ice[row][WAYS * day + wayOn(day, days, ways)];
                if (left >= thick + 1) {
                    left -= thick + 1;
                    cells += 9 - thick;
                }
            }
            return cells;
        }
    }

    /** A row of numbers of a sort, or a missing one. */
    private static final class Sheet {
        static final int MISSING = -1, BYTES = 0, SHORTS = 1, SORTS = 3;

        final int[] items = new int[MAX_ITEMS];
        int sort = MISSING;
        int size;

        void become(int newSort, int newSize) {
            sort = newSort;
            size = newSize;
            for (int k = 0; k < MAX_ITEMS; k++) {
                items[k] = 0;
            }
        }

        boolean hasItem(int i) {
            return i >= 0 && i < size;
        }

        /** Whether n items from i on lie inside; i + n could wrap, so n is weighed against the rest. */
        boolean hasStretch(int i, int n) {
            return i >= 0 && n >= 0 && i <= size && n <= size - i;
        }

        void put(int i, int v) {
            if (sort == BYTES) {
                items[i] = (byte) v;
            } else if (sort == SHORTS) {
                items[i] = (short) v;
            } else {
                items[i] = v;
            }
        }
    }
}
