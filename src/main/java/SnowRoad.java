import java.util.Arrays;

/** A moor road in the snow, as ../shared/DOC.md tells it. */
public final class SnowRoad {
    public static final int NONE = -1, BAD = -2, NOT = -3, FULL = -4;

    private static final int MILES = 12, LAST_MILE = 11;
    private static final int HOURS = 24, LAST_HOUR = 23;
    private static final int MOST_PLOUGHS = 4, MOST_BUSES = 8, MOST_EVENTS = 8, MOST_SEEN = 8;
    private static final int MOST_SPARED = 2;
    private static final int STRONGEST = 9, STRONGEST_WIND = 9, FIRST_WIND = 2, GALE_ADDS = 3;
    private static final int DEEPEST_SEEN = 99;
    private static final int PUSHES_TIMES = 3;
    private static final int PASSABLE = 4, MILES_AN_HOUR = 3;

    private static final int TEXTS = 4;
    private static final int LAND_TEXT = 0, FALL_TEXT = 1, PLOUGH_TEXT = 2;
    private static final int[] TEXT_ROOM = {12, 24, 15, 8};
    private static final int PLOUGH_BYTES = 3, PLOUGH_STEP = 4;

    private static final int OPEN = 0, HEDGE = 1, CUTTING = 2, LANDS = 3;
    private static final int EAST = 0, WEST = 1;
    private static final int GALE = 0, THAW = 2, EVENT_KINDS = 3;

    private static final int SIXTEENTHS = 16, SIXTEENTH_DOUBLINGS = 4, LOTS_OF = 5;

    private static final int[] DIGEST_PLOUGH_HOURS = {0, 5, 14};

    // By hand, since LANGUAGE.md lists functions of Integer and Long, not their constants.
    private static final int LEAST_INT = 1 << 31;
    private static final long LEAST_LONG = 1L << 63;

    private static final int SHEETS = 4, FORMS = 3, MOST_ITEMS = 60, LOST = -1;
    private static final int BYTES = 0, SHORTS = 1;
    private static final int NULL_FOUND = 1, INDEX_FOUND = 2, CAST_FOUND = 3, STORE_FOUND = 4, SIZE_FOUND = 5;

    private final Text[] texts = new Text[TEXTS];
    private final Told told = new Told();
    private final Sightings sightings = new Sightings();
    private final Sheet[] sheets = new Sheet[SHEETS];
    private int finding = 0;

    // The winter as told is kept, since most calls only look at it; trials are for "what if".
    private final Winter kept = new Winter();
    private final Winter trial = new Winter();
    private boolean keptIsOld = true;

    // For each BUS and each number of EVENTS that are: by how many choices of them it is OVER.
    private final int[] choices = new int[MOST_BUSES * (MOST_EVENTS + 1)];
    private boolean choicesAreOld = true;

    private final int[] drawnFall = new int[HOURS];
    private final int[] drifts = new int[STRONGEST * HOURS * MILES];

    public SnowRoad() {
        for (int t = 0; t < TEXTS; t++) {
            texts[t] = new Text(t);
        }
        for (int s = 0; s < SHEETS; s++) {
            sheets[s] = new Sheet();
        }
    }

    // ---- land, fall, ploughs, buses, wind, events

    public int type(int text, int b) {
        if (outside(text, TEXTS) || outside(b, 256)) {
            return BAD;
        }
        if (!texts[text].append(b)) {
            return FULL;
        }
        takeText(text);
        return texts[text].length;
    }

    public int wipe(int text) {
        if (outside(text, TEXTS)) {
            return BAD;
        }
        int had = texts[text].length;
        texts[text].length = 0;
        takeText(text);
        return had;
    }

    public int undo(int text) {
        if (outside(text, TEXTS)) {
            return BAD;
        }
        if (texts[text].length == 0) {
            return NOT;
        }
        texts[text].length--;
        takeText(text);
        return texts[text].length;
    }

    public int fault(int text) {
        return outside(text, TEXTS) ? BAD : texts[text].firstFault();
    }

    public int land(int mile) {
        return outside(mile, MILES) ? BAD : told.lands[mile];
    }

    public int fall(int hour) {
        return outside(hour, HOURS) ? BAD : told.falls[hour];
    }

    public int plough(int plough, int what) {
        if (outside(plough, told.ploughs) || outside(what, 3)) {
            return BAD;
        }
        if (what == 0) {
            return told.begins[plough];
        }
        return what == 1 ? told.strong[plough] : told.ways[plough];
    }

    public int bus(int bus) {
        return outside(bus, told.buses) ? BAD : told.starts[bus];
    }

    public int wind(int v) {
        if (v < 0 || v > STRONGEST_WIND) {
            return BAD;
        }
        int was = told.windSpeed;
        told.windSpeed = v;
        changed();
        return was;
    }

    public int event(int kind, int hour, int number) {
        if (!mayBeEvent(kind, hour, number)) {
            return BAD;
        }
        if (!told.addEvent(kind, hour, number)) {
            return FULL;
        }
        changed();
        return told.events;
    }

    public int back() {
        if (told.events == 0) {
            return NOT;
        }
        told.events--;
        changed();
        return told.events;
    }

    public int read(int s) {
        if (outside(s, SHEETS)) {
            return BAD;
        }
        Sheet sheet = sheets[s];
        if (sheet.form == LOST) {
            return found(NULL_FOUND);
        }
        int taken = 0;
        for (int i = 0; i + 2 < sheet.size; i += 3) {
            if (event(sheet.items[i], sheet.items[i + 1], sheet.items[i + 2]) < 0) {
                break;
            }
            taken++;
        }
        return taken;
    }

    // ---- hours

    public int deep(int hour, int mile) {
        if (outside(hour, HOURS) || outside(mile, MILES)) {
            return BAD;
        }
        return asTold().depths[hour * MILES + mile];
    }

    public int at(int hour, int plough, int what) {
        if (outside(hour, HOURS) || outside(plough, told.ploughs) || outside(what, 3)) {
            return BAD;
        }
        Winter winter = asTold();
        int place = hour * MOST_PLOUGHS + plough;
        if (what == 0) {
            return winter.ploughMiles[place];
        }
        return what == 1 ? winter.ploughWays[place] : winter.clearings[place];
    }

    public int rides(int hour, int bus) {
        if (outside(hour, HOURS) || outside(bus, told.buses)) {
            return BAD;
        }
        Winter winter = asTold();
        winter.ride(told.starts[bus], hour);
        return winter.busMile;
    }

    public int snow(int hour, int what) {
        if (outside(hour, HOURS) || outside(what, 2)) {
            return BAD;
        }
        return what == 0 ? asTold().snowBehind(hour) : asTold().deepMilesBehind(hour);
    }

    public int over(int bus, int what) {
        if (outside(bus, told.buses) || outside(what, 2)) {
            return BAD;
        }
        Winter winter = asTold();
        winter.ride(told.starts[bus], LAST_HOUR);
        return what == 0 ? winter.busOver : winter.busWaited;
    }

    public int cleared(int plough, int what) {
        if (outside(plough, told.ploughs) || outside(what, 2)) {
            return BAD;
        }
        return what == 0 ? asTold().clearedInAll[plough] : asTold().stuckHours[plough];
    }

    public int deepest(int what) {
        if (outside(what, 3)) {
            return BAD;
        }
        int place = asTold().deepestPlace();
        if (what == 0) {
            return kept.depths[place];
        }
        return what == 1 ? place / MILES : place % MILES;
    }

    public int shut() {
        int hours = 0;
        for (int hour = 0; hour < HOURS; hour++) {
            if (asTold().deepMilesBehind(hour) > 0) {
                hours++;
            }
        }
        return hours;
    }

    public int best() {
        Winter winter = asTold();
        int which = NONE;
        int most = 0;
        for (int p = 0; p < told.ploughs; p++) {
            if (winter.clearedInAll[p] > most) {
                most = winter.clearedInAll[p];
                which = p;
            }
        }
        return which;
    }

    // ---- plans

    public int begin(int plough, int what) {
        if (outside(plough, told.ploughs) || outside(what, 2)) {
            return BAD;
        }
        int own = told.begins[plough];
        int which = 0;
        int most = NONE;
        for (int mile = 0; mile < MILES; mile++) {
            told.begins[plough] = mile;
            trial.run(told, allEvents());
            int over = trial.busesOver(told);
            if (over > most) {
                most = over;
                which = mile;
            }
        }
        told.begins[plough] = own;
        return what == 0 ? which : most;
    }

    public int hedge(int what) {
        if (outside(what, 2)) {
            return BAD;
        }
        int which = 0;
        int least = NONE;
        for (int mile = 0; mile < MILES; mile++) {
            tryLand(mile, HEDGE);
            int snow = trial.snowBehind(LAST_HOUR);
            if (least == NONE || snow < least) {
                least = snow;
                which = mile;
            }
        }
        return what == 0 ? which : least;
    }

    public int start(int bus, int what) {
        if (outside(bus, told.buses) || outside(what, 2)) {
            return BAD;
        }
        Winter winter = asTold();
        int which = NONE;
        int soonest = NONE;
        for (int hour = 0; hour < HOURS; hour++) {
            winter.ride(hour, LAST_HOUR);
            if (winter.busOver != NONE && (soonest == NONE || winter.busOver < soonest)) {
                soonest = winter.busOver;
                which = hour;
            }
        }
        return what == 0 ? which : soonest;
    }

    public int spare(int i) {
        if (i < NONE || i >= MOST_SPARED) {
            return BAD;
        }
        int spared = sparedEvents();
        if (spared == NONE) {
            return NONE;
        }
        if (i == NONE) {
            return Integer.bitCount(spared);
        }
        int left = i == 0 ? spared : spared & (spared - 1);
        return left == 0 ? NONE : Integer.numberOfTrailingZeros(left);
    }

    // ---- seen, chance, winters

    public int seen(int hour, int mile, int depth) {
        if (outside(hour, HOURS) || outside(mile, MILES) || depth < 0 || depth > DEEPEST_SEEN) {
            return BAD;
        }
        return sightings.add(hour, mile, depth) ? sightings.size : FULL;
    }

    public int forget() {
        int had = sightings.size;
        sightings.size = 0;
        return had;
    }

    public int never() {
        int bits = 0;
        for (int e = 0; e < told.events; e++) {
            trial.run(told, allEvents() & ~(1 << e));
            if (sightings.fit(trial)) {
                bits |= 1 << e;
            }
        }
        return bits;
    }

    public int strengths(int plough) {
        if (outside(plough, told.ploughs)) {
            return BAD;
        }
        int bits = 0;
        for (int strength = 1; strength <= STRONGEST; strength++) {
            tryStrength(plough, strength);
            if (sightings.fit(trial)) {
                bits |= 1 << strength;
            }
        }
        return bits;
    }

    public int lie(int mile) {
        if (outside(mile, MILES)) {
            return BAD;
        }
        int bits = 0;
        for (int kind = 0; kind < LANDS; kind++) {
            tryLand(mile, kind);
            if (sightings.fit(trial)) {
                bits |= 1 << kind;
            }
        }
        return bits;
    }

    public int ask(int plough) {
        if (outside(plough, told.ploughs)) {
            return BAD;
        }
        int fitting = 0;
        for (int strength = 1; strength <= STRONGEST; strength++) {
            tryStrength(plough, strength);
            if (sightings.fit(trial)) {
                System.arraycopy(trial.depths, 0, drifts, fitting * HOURS * MILES, HOURS * MILES);
                fitting++;
            }
        }
        int which = 0;
        int least = NONE;
        for (int hour = 0; hour < HOURS; hour++) {
            int alike = mostAlike(hour, fitting);
            if (least == NONE || alike < least) {
                least = alike;
                which = hour;
            }
        }
        return which;
    }

    public long chance(int c, int bus, int what) {
        if (c < 0 || c > SIXTEENTHS || outside(bus, told.buses) || outside(what, 2)) {
            return LEAST_LONG - BAD;
        }
        countChoices();
        long above = 0;
        for (int are = 0; are <= told.events; are++) {
            long weight = power(c, are) * power(SIXTEENTHS - c, told.events - are);
            above += weight * choices[bus * (MOST_EVENTS + 1) + are];
        }
        // Below is a power of two, so halving is all that lowest terms can need.
        int doublings = SIXTEENTH_DOUBLINGS * told.events;
        for (; doublings > 0 && above % 2 == 0; doublings--) {
            above /= 2;
        }
        return what == 0 ? above : 1L << doublings;
    }

    public int winters(int seed, int n, int what) {
        if (n < 0 || n > HOURS || outside(what, 2)) {
            return BAD;
        }
        drawFall(seed, n);
        int[] own = told.falls;
        told.falls = drawnFall;
        trial.run(told, allEvents());
        told.falls = own;
        return what == 0 ? trial.snowBehind(LAST_HOUR) : trial.busesOver(told);
    }

    // ---- sheets

    public int sheet(int s, int form, int n) {
        if (outside(s, SHEETS) || outside(form, FORMS) || n > MOST_ITEMS) {
            return BAD;
        }
        if (n < 0) {
            return found(SIZE_FOUND);
        }
        sheets[s].renew(form, n);
        return n;
    }

    public int lose(int s) {
        if (outside(s, SHEETS)) {
            return BAD;
        }
        if (sheets[s].form == LOST) {
            return found(NULL_FOUND);
        }
        sheets[s].form = LOST;
        return sheets[s].size;
    }

    public int lay(int s, int form, int i, int v) {
        if (outside(s, SHEETS) || outside(form, FORMS)) {
            return BAD;
        }
        int wrong = wrongWith(sheets[s], form, i);
        if (wrong != 0) {
            return found(wrong);
        }
        sheets[s].put(i, v);
        return 1;
    }

    public int get(int s, int form, int i) {
        if (outside(s, SHEETS) || outside(form, FORMS)) {
            return LEAST_INT;
        }
        int wrong = wrongWith(sheets[s], form, i);
        if (wrong != 0) {
            finding = wrong;
            return LEAST_INT;
        }
        return sheets[s].items[i];
    }

    public int copy(int s, int i, int t, int j, int n) {
        if (outside(s, SHEETS) || outside(t, SHEETS)) {
            return BAD;
        }
        Sheet from = sheets[s];
        Sheet to = sheets[t];
        if (from.form == LOST || to.form == LOST) {
            return found(NULL_FOUND);
        }
        if (from.form != to.form) {
            return found(STORE_FOUND);
        }
        if (!from.hasItems(i, n) || !to.hasItems(j, n)) {
            return found(INDEX_FOUND);
        }
        System.arraycopy(from.items, i, to.items, j, n);
        return 1;
    }

    public int write(int mile, int s) {
        if (outside(mile, MILES) || outside(s, SHEETS)) {
            return BAD;
        }
        Sheet sheet = sheets[s];
        if (sheet.form == LOST) {
            return found(NULL_FOUND);
        }
        int written = Math.min(sheet.size, HOURS);
        for (int hour = 0; hour < written; hour++) {
            sheet.put(hour, asTold().depths[hour * MILES + mile]);
        }
        return written;
    }

    public int count(int what) {
        switch (what) {
            case 0:
                return told.ploughs;
            case 1:
                return told.buses;
            case 2:
                return allBytes();
            case 3:
                return told.windSpeed;
            case 4:
                return told.events;
            case 5:
                return asTold().snowBehind(LAST_HOUR);
            case 6:
                return asTold().busesOver(told);
            case 7:
                return sightings.size;
            case 8:
                return finding;
            default:
                return BAD;
        }
    }

    public long digest() {
        long h = 17;
        for (int what = 0; what <= 7; what++) {
            h = mix(h, count(what));
        }
        for (int t = 0; t < TEXTS; t++) {
            h = mix(h, fault(t));
        }
        for (int hour = 0; hour < HOURS; hour++) {
            h = mix(mix(mix(h, fall(hour)), snow(hour, 0)), snow(hour, 1));
        }
        for (int mile = 0; mile < MILES; mile++) {
            h = mix(mix(mix(mix(h, land(mile)), deep(6, mile)), deep(20, mile)), lie(mile));
        }
        for (int p = 0; p < told.ploughs; p++) {
            h = mixPlough(h, p);
        }
        for (int b = 0; b < told.buses; b++) {
            h = mixBus(h, b);
        }
        for (int what = 0; what < 3; what++) {
            h = mix(h, deepest(what));
        }
        h = mix(mix(h, shut()), best());
        h = mix(mix(h, hedge(0)), hedge(1));
        h = mix(mix(h, spare(NONE)), spare(0));
        h = mix(h, never());
        return mix(mix(h, winters(7, 15, 0)), winters(7, 15, 1));
    }

    // ---- what the calls share

    private static boolean outside(int number, int end) {
        return number < 0 || number >= end;
    }

    private static long mix(long h, long v) {
        return 31 * h + v;
    }

    private long mixPlough(long h, int p) {
        for (int what = 0; what < 3; what++) {
            h = mix(h, plough(p, what));
        }
        for (int hour : DIGEST_PLOUGH_HOURS) {
            h = mix(mix(mix(h, at(hour, p, 0)), at(hour, p, 1)), at(hour, p, 2));
        }
        h = mix(mix(h, cleared(p, 0)), cleared(p, 1));
        h = mix(mix(h, begin(p, 0)), begin(p, 1));
        return mix(mix(h, strengths(p)), ask(p));
    }

    private long mixBus(long h, int b) {
        h = mix(mix(h, bus(b)), rides(9, b));
        h = mix(mix(h, over(b, 0)), over(b, 1));
        h = mix(mix(h, start(b, 0)), start(b, 1));
        return mix(mix(h, chance(5, b, 0)), chance(5, b, 1));
    }

    private int found(int number) {
        finding = number;
        return -10 - number;
    }

    private static int wrongWith(Sheet sheet, int form, int i) {
        if (sheet.form == LOST) {
            return NULL_FOUND;
        }
        if (sheet.form != form) {
            return CAST_FOUND;
        }
        return outside(i, sheet.size) ? INDEX_FOUND : 0;
    }

    private void changed() {
        keptIsOld = true;
        choicesAreOld = true;
    }

    private void takeText(int text) {
        switch (text) {
            case LAND_TEXT:
                told.takeLand(texts[text]);
                break;
            case FALL_TEXT:
                told.takeFall(texts[text]);
                break;
            case PLOUGH_TEXT:
                told.takePloughs(texts[text]);
                break;
            default:
                told.takeBuses(texts[text]);
                break;
        }
        changed();
    }

    private int allBytes() {
        int bytes = 0;
        for (int t = 0; t < TEXTS; t++) {
            bytes += texts[t].length;
        }
        return bytes;
    }

    private static boolean mayBeEvent(int kind, int hour, int number) {
        return !outside(kind, EVENT_KINDS) && !outside(hour, HOURS) && !outside(number, MILES);
    }

    private int allEvents() {
        return (1 << told.events) - 1;
    }

    private Winter asTold() {
        if (keptIsOld) {
            kept.run(told, allEvents());
            keptIsOld = false;
        }
        return kept;
    }

    private void tryLand(int mile, int kind) {
        int own = told.lands[mile];
        told.lands[mile] = kind;
        trial.run(told, allEvents());
        told.lands[mile] = own;
    }

    private void tryStrength(int plough, int strength) {
        int own = told.strong[plough];
        told.strong[plough] = strength;
        trial.run(told, allEvents());
        told.strong[plough] = own;
    }

    private boolean allOverBut(int spared) {
        trial.run(told, allEvents() & ~spared);
        return trial.busesOver(told) == told.buses;
    }

    /** The EVENTS that SPARE names, as bits; NONE if two are not enough. */
    private int sparedEvents() {
        if (allOverBut(0)) {
            return 0;
        }
        for (int e = 0; e < told.events; e++) {
            if (allOverBut(1 << e)) {
                return 1 << e;
            }
        }
        for (int e = 0; e < told.events; e++) {
            for (int f = e + 1; f < told.events; f++) {
                if (allOverBut(1 << e | 1 << f)) {
                    return 1 << e | 1 << f;
                }
            }
        }
        return NONE;
    }

    /** The greatest number of the first drifts that are as deep as one another behind an HOUR. */
    private int mostAlike(int hour, int fitting) {
        int most = 0;
        for (int a = 0; a < fitting; a++) {
            int alike = 1;
            for (int b = a + 1; b < fitting; b++) {
                if (sameDrift(hour, a, b)) {
                    alike++;
                }
            }
            most = Math.max(most, alike);
        }
        return most;
    }

    private boolean sameDrift(int hour, int a, int b) {
        int inA = (a * HOURS + hour) * MILES;
        int inB = (b * HOURS + hour) * MILES;
        for (int mile = 0; mile < MILES; mile++) {
            if (drifts[inA + mile] != drifts[inB + mile]) {
                return false;
            }
        }
        return true;
    }

    private void countChoices() {
        if (!choicesAreOld) {
            return;
        }
        Arrays.fill(choices, 0);
        int all = allEvents();
        for (int are = 0; are <= all; are++) {
            trial.run(told, are);
            for (int b = 0; b < told.buses; b++) {
                trial.ride(told.starts[b], LAST_HOUR);
                if (trial.busOver != NONE) {
                    choices[b * (MOST_EVENTS + 1) + Integer.bitCount(are)]++;
                }
            }
        }
        choicesAreOld = false;
    }

    private static long power(int base, int times) {
        long product = 1;
        for (int i = 0; i < times; i++) {
            product *= base;
        }
        return product;
    }

    private void drawFall(int seed, int n) {
        Arrays.fill(drawnFall, 0);
        for (int hour = 0; hour < n; hour++) {
            seed = 1103515245 * seed + 12345;
            drawnFall[hour] = (seed >>> 16) % LOTS_OF;
        }
    }

    /** The bytes of a text as they were typed. */
    private static final class Text {
        final int kind;
        final int[] bytes;
        int length = 0;

        Text(int kind) {
            this.kind = kind;
            this.bytes = new int[TEXT_ROOM[kind]];
        }

        boolean append(int b) {
            if (length >= bytes.length) {
                return false;
            }
            bytes[length] = b;
            length++;
            return true;
        }

        // A fifth PLOUGH needs no test: there is no room for its first byte.
        int firstFault() {
            for (int i = 0; i < length; i++) {
                if (!mayStand(i, bytes[i])) {
                    return i;
                }
            }
            boolean ended = kind != PLOUGH_TEXT || length == 0 || length % PLOUGH_STEP == PLOUGH_BYTES;
            return ended ? NONE : length;
        }

        private boolean mayStand(int i, int b) {
            switch (kind) {
                case LAND_TEXT:
                    return b == 'o' || b == 'h' || b == 'c';
                case FALL_TEXT:
                    return b >= '0' && b <= '9';
                case PLOUGH_TEXT:
                    return mayStandInPloughs(i % PLOUGH_STEP, b);
                default:
                    return b >= 'a' && b <= 'x';
            }
        }

        private static boolean mayStandInPloughs(int place, int b) {
            switch (place) {
                case 0:
                    return b >= 'a' && b <= 'l';
                case 1:
                    return b >= '1' && b <= '9';
                case 2:
                    return b == 'e' || b == 'w';
                default:
                    return b == ';';
            }
        }

        /** How many bytes count: with a FAULT a text is as if it was empty. */
        int meant() {
            return firstFault() == NONE ? length : 0;
        }
    }

    /** What was told, as numbers. */
    private static final class Told {
        final int[] lands = new int[MILES];
        int[] falls = new int[HOURS];
        int ploughs = 0;
        final int[] begins = new int[MOST_PLOUGHS];
        final int[] strong = new int[MOST_PLOUGHS];
        final int[] ways = new int[MOST_PLOUGHS];
        int buses = 0;
        final int[] starts = new int[MOST_BUSES];
        int windSpeed = FIRST_WIND;
        int events = 0;
        final int[] kinds = new int[MOST_EVENTS];
        final int[] hours = new int[MOST_EVENTS];
        final int[] numbers = new int[MOST_EVENTS];

        void takeLand(Text text) {
            int meant = text.meant();
            for (int mile = 0; mile < MILES; mile++) {
                int b = mile < meant ? text.bytes[mile] : 'o';
                lands[mile] = b == 'o' ? OPEN : b == 'h' ? HEDGE : CUTTING;
            }
        }

        void takeFall(Text text) {
            int meant = text.meant();
            for (int hour = 0; hour < HOURS; hour++) {
                falls[hour] = hour < meant ? text.bytes[hour] - '0' : 0;
            }
        }

        void takePloughs(Text text) {
            int meant = text.meant();
            ploughs = 0;
            for (int i = 0; i + 2 < meant && ploughs < MOST_PLOUGHS; i += PLOUGH_STEP) {
                begins[ploughs] = text.bytes[i] - 'a';
                strong[ploughs] = text.bytes[i + 1] - '0';
                ways[ploughs] = text.bytes[i + 2] == 'e' ? EAST : WEST;
                ploughs++;
            }
        }

        void takeBuses(Text text) {
            buses = text.meant();
            for (int b = 0; b < buses; b++) {
                starts[b] = text.bytes[b] - 'a';
            }
        }

        boolean addEvent(int kind, int hour, int number) {
            if (events >= MOST_EVENTS) {
                return false;
            }
            kinds[events] = kind;
            hours[events] = hour;
            numbers[events] = number;
            events++;
            return true;
        }
    }

    /** What comes of what was told, hour by hour. */
    private static final class Winter {
        final int[] depths = new int[HOURS * MILES];
        final int[] ploughMiles = new int[HOURS * MOST_PLOUGHS];
        final int[] ploughWays = new int[HOURS * MOST_PLOUGHS];
        final int[] clearings = new int[HOURS * MOST_PLOUGHS];
        final int[] clearedInAll = new int[MOST_PLOUGHS];
        final int[] stuckHours = new int[MOST_PLOUGHS];

        // EVENTS by HOURS: THE WIND in each; the BROKEN PLOUGHS in each, as bits; those with a THAW, as bits.
        private final int[] winds = new int[HOURS];
        private final int[] broken = new int[HOURS];
        private int thawHours = 0;

        private final int[] now = new int[MILES];
        private final int[] mileNow = new int[MOST_PLOUGHS];
        private final int[] wayNow = new int[MOST_PLOUGHS];

        // What the latest ride came to.
        int busMile = NONE;
        int busOver = NONE;
        int busWaited = 0;

        /** All HOURS, with those EVENTS alone whose bits are set. */
        void run(Told told, int are) {
            Arrays.fill(now, 0);
            for (int p = 0; p < told.ploughs; p++) {
                mileNow[p] = told.begins[p];
                wayNow[p] = told.ways[p];
                clearedInAll[p] = 0;
                stuckHours[p] = 0;
            }
            sortEvents(told, are);
            for (int hour = 0; hour < HOURS; hour++) {
                snowFalls(told.lands, told.falls[hour]);
                windCarries(told.lands, winds[hour]);
                if ((thawHours >> hour & 1) == 1) {
                    snowThaws(told, hour, are);
                }
                ploughsGo(told, hour);
                System.arraycopy(now, 0, depths, hour * MILES, MILES);
            }
        }

        private void sortEvents(Told told, int are) {
            Arrays.fill(winds, told.windSpeed);
            Arrays.fill(broken, 0);
            thawHours = 0;
            for (int e = 0; e < told.events; e++) {
                if ((are >> e & 1) == 1) {
                    sortEvent(told.kinds[e], told.hours[e], told.numbers[e]);
                }
            }
        }

        private void sortEvent(int kind, int hour, int number) {
            if (kind == GALE) {
                winds[hour] += GALE_ADDS;
            } else if (kind == THAW) {
                thawHours |= 1 << hour;
            } else {
                broken[hour] |= 1 << number;
                if (hour < LAST_HOUR) {
                    broken[hour + 1] |= 1 << number;
                }
            }
        }

        private void snowFalls(int[] lands, int falling) {
            if (falling == 0) {
                return;
            }
            for (int mile = 0; mile < MILES; mile++) {
                now[mile] += lands[mile] == CUTTING ? falling + 1 : falling;
            }
        }

        // From the east, so that what a MILE is given is not carried on in the same HOUR.
        private void windCarries(int[] lands, int speed) {
            for (int mile = LAST_MILE; mile >= 0; mile--) {
                if (lands[mile] == OPEN && now[mile] > 0) {
                    int carried = now[mile] < speed ? now[mile] : speed;
                    now[mile] -= carried;
                    if (mile < LAST_MILE) {
                        now[mile + 1] += carried;
                    }
                }
            }
        }

        private void snowThaws(Told told, int hour, int are) {
            for (int e = 0; e < told.events; e++) {
                if (told.kinds[e] == THAW && told.hours[e] == hour && (are >> e & 1) == 1) {
                    now[told.numbers[e]] /= 2;
                }
            }
        }

        private void ploughsGo(Told told, int hour) {
            for (int p = 0; p < told.ploughs; p++) {
                int clearing = (broken[hour] >> p & 1) == 1 ? 0 : ploughGoes(p, told.strong[p]);
                clearedInAll[p] += clearing;
                int place = hour * MOST_PLOUGHS + p;
                ploughMiles[place] = mileNow[p];
                ploughWays[place] = wayNow[p];
                clearings[place] = clearing;
            }
        }

        /** Answers how much it CLEARS. */
        private int ploughGoes(int p, int strength) {
            if (mileNow[p] <= 0) {
                wayNow[p] = EAST;
            } else if (mileNow[p] >= LAST_MILE) {
                wayNow[p] = WEST;
            }
            int next = wayNow[p] == EAST ? mileNow[p] + 1 : mileNow[p] - 1;
            int depth = now[next];
            if (depth > PUSHES_TIMES * strength) {
                stuckHours[p]++;
                now[next] -= strength;
                return strength;
            }
            mileNow[p] = next;
            now[next] = 0;
            return depth;
        }

        // BUSES go last and leave the snow as it is, so they can ride on the depths behind HOURS.
        void ride(int starts, int until) {
            busMile = NONE;
            busOver = NONE;
            busWaited = 0;
            for (int hour = starts; hour <= until && busOver == NONE; hour++) {
                int from = hour == starts ? 0 : busMile;
                busMile = rideOn(from, hour);
                if (busMile == from) {
                    busWaited++;
                }
                if (busMile == LAST_MILE) {
                    busOver = hour;
                }
            }
        }

        private int rideOn(int from, int hour) {
            int mile = from;
            for (int step = 0; step < MILES_AN_HOUR; step++) {
                if (mile >= LAST_MILE || depths[hour * MILES + mile + 1] > PASSABLE) {
                    break;
                }
                mile++;
            }
            return mile;
        }

        int busesOver(Told told) {
            int over = 0;
            for (int b = 0; b < told.buses; b++) {
                ride(told.starts[b], LAST_HOUR);
                if (busOver != NONE) {
                    over++;
                }
            }
            return over;
        }

        int snowBehind(int hour) {
            int sum = 0;
            for (int mile = 0; mile < MILES; mile++) {
                sum += depths[hour * MILES + mile];
            }
            return sum;
        }

        int deepMilesBehind(int hour) {
            int miles = 0;
            for (int mile = 0; mile < MILES; mile++) {
                if (depths[hour * MILES + mile] > PASSABLE) {
                    miles++;
                }
            }
            return miles;
        }

        int deepestPlace() {
            int place = 0;
            for (int i = 1; i < depths.length; i++) {
                if (depths[i] > depths[place]) {
                    place = i;
                }
            }
            return place;
        }
    }

    /** What was SEEN. */
    private static final class Sightings {
        final int[] places = new int[MOST_SEEN];
        final int[] depths = new int[MOST_SEEN];
        int size = 0;

        boolean add(int hour, int mile, int depth) {
            if (size >= MOST_SEEN) {
                return false;
            }
            places[size] = hour * MILES + mile;
            depths[size] = depth;
            size++;
            return true;
        }

        boolean fit(Winter winter) {
            for (int i = 0; i < size; i++) {
                if (winter.depths[places[i]] != depths[i]) {
                    return false;
                }
            }
            return true;
        }
    }

    /** A row of a FORM, or LOST; its room is made once, so that new rows cost nothing. */
    private static final class Sheet {
        final int[] items = new int[MOST_ITEMS];
        int form = LOST;
        int size = 0;

        void renew(int newForm, int newSize) {
            form = newForm;
            size = newSize;
            Arrays.fill(items, 0);
        }

        void put(int i, int v) {
            items[i] = form == BYTES ? (byte) v : form == SHORTS ? (short) v : v;
        }

        // As a long, since a place and a number near the greatest int would wrap.
        boolean hasItems(int first, int n) {
            return first >= 0 && n >= 0 && (long) first + n <= size;
        }
    }
}
