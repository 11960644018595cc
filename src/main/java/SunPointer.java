/**
 * The square as a sundial whose hand is a man: who stands when, how he leans, what the square
 * reads by him, and what harm comes of it to the deeds of the town.
 */
public final class SunPointer {
    public static final int BAD = -1, STATE = -2, FULL = -3, NONE = -4;

    private static final int HOURS = 12;
    private static final int PER_HOUR = 4;
    private static final int QUARTERS = 48;
    private static final int MOST_MEN = 4;
    private static final int MOST_DEEDS = 5;
    private static final int MOST_SEEN = 6;
    private static final int KINDS = 4;
    private static final int LEANS = 7;
    private static final int PAINTS = 7;
    private static final int MOST_WORTH = 9;
    private static final int MIDDLE = 3;
    private static final int NEVER_HARM = 48;
    private static final int IMAGES = 2;
    private static final int SHEETS = 4;
    private static final int LANES = 3;
    private static final int MOST_CELLS = 40;
    private static final int MOST_READ = 20;
    private static final int MOST_DRIFT = 40;
    private static final int MOST_ODDS = 10;
    /** Ten to the power of HOURS: the odds of every HOUR divide it without a rest. */
    private static final long WHOLE = 1000000000000L;
    /** LEANS, the nearest to 3 first, of two the less. */
    private static final int[] NEAREST_LEANS = {3, 2, 4, 1, 5, 0, 6};

    private final Town now = new Town();
    /** Changed freely to see what would be; its state is lost from call to call. */
    private final Town trial = new Town();
    private final Town[] images = new Town[IMAGES];
    private final boolean[] kept = new boolean[IMAGES];
    private final Tape tape = new Tape();
    private final Sheet[] sheets = new Sheet[SHEETS];
    private final int[] seenDeeds = new int[MOST_SEEN];
    private final int[] seenQuarters = new int[MOST_SEEN];
    private final int[] doneByLean = new int[LEANS];
    private int seenCount;
    private int latestTorn;

    public SunPointer() {
        for (int k = 0; k < IMAGES; k++) {
            images[k] = new Town();
        }
        for (int k = 0; k < SHEETS; k++) {
            sheets[k] = new Sheet();
        }
    }

    // ---- the text, what there is

    public int feed(int c) {
        if (c < 0 || c > 127) {
            return BAD;
        }
        return tape.add(c) ? tape.length : FULL;
    }

    public int end(int n) {
        if (n < 0 || n > tape.length) {
            return BAD;
        }
        int had = tape.length;
        tape.length = n;
        return had;
    }

    public int text() {
        int lines = tape.tell(trial);
        tape.length = 0;
        if (tape.faultMet != Tape.NO_FAULT) {
            return -10 - tape.faultPlace;
        }
        now.copyOf(trial);
        seenCount = 0;
        for (int k = 0; k < IMAGES; k++) {
            kept[k] = false;
        }
        return lines;
    }

    public int fault() {
        return tape.faultMet;
    }

    public int rule(int what) {
        switch (what) {
            case 0: return now.men;
            case 1: return now.deeds;
            case 2: return now.painted;
            case 3: return now.clouds;
            case 4: return now.hoursStood();
            case 5: return now.harm();
            default: return BAD;
        }
    }

    public int man(int m, int what) {
        if (!now.hasMan(m)) {
            return BAD;
        }
        switch (what) {
            case 0: return now.kindOf[m];
            case 1: return now.leanOf[m];
            case 2: return now.hoursOf(m);
            case 3: return now.longestStood(m);
            default: return BAD;
        }
    }

    public int rota(int hour) {
        return isHour(hour) ? now.stands[hour] : BAD;
    }

    public int deed(int i, int what) {
        if (!now.hasDeed(i)) {
            return BAD;
        }
        switch (what) {
            case 0: return now.dues[i];
            case 1: return now.worths[i];
            case 2: return now.doneAt(i);
            case 3: return now.harmAt(i, now.doneAt(i));
            default: return BAD;
        }
    }

    // ---- what is changed

    public int alter(int m, int what, int v) {
        if (!now.hasMan(m) || !isFirstOrSecond(what)) {
            return BAD;
        }
        if (v < 0 || v >= (what == 0 ? KINDS : LEANS)) {
            return BAD;
        }
        int was = what == 0 ? now.kindOf[m] : now.leanOf[m];
        if (what == 0) {
            now.setKind(m, v);
        } else {
            now.setLean(m, v);
        }
        return was;
    }

    public int move(int i, int what, int v) {
        if (!now.hasDeed(i) || !isFirstOrSecond(what)) {
            return BAD;
        }
        if (what == 0 ? !isQuarter(v) : !isWorth(v)) {
            return BAD;
        }
        int was = what == 0 ? now.dues[i] : now.worths[i];
        if (what == 0) {
            now.dues[i] = v;
        } else {
            now.worths[i] = v;
        }
        return was;
    }

    public int shift(int hour, int m) {
        if (!mayStand(hour, m)) {
            return BAD;
        }
        int was = now.stands[hour];
        now.setStands(hour, m);
        return was;
    }

    public int cloud(int hour, boolean is) {
        if (!isHour(hour)) {
            return BAD;
        }
        int was = now.isCloudy(hour) ? 1 : 0;
        now.setCloudy(hour, is);
        return was;
    }

    public int paint(int v) {
        if (v < 0 || v >= PAINTS) {
            return BAD;
        }
        int was = now.painted;
        now.setPainted(v);
        return was;
    }

    public int want(int due, int worth) {
        if (!isQuarter(due) || !isWorth(worth)) {
            return BAD;
        }
        return now.addDeed(due, worth) ? now.deeds : FULL;
    }

    public int drop(int n) {
        if (n < 0 || n > now.deeds) {
            return BAD;
        }
        int had = now.deeds;
        now.deeds = n;
        return had;
    }

    // ---- what is read

    public int shows(int quarter) {
        return isQuarter(quarter) ? now.reading(quarter) : BAD;
    }

    public int lost(int what) {
        if (!isFirstOrSecond(what)) {
            return BAD;
        }
        int times = 0;
        int first = NONE;
        int latest = NONE;
        for (int q = 0; q < QUARTERS; q++) {
            int reading = now.reading(q);
            if (reading == NONE) {
                continue;
            }
            if (reading < latest) {
                times++;
                first = first == NONE ? q : first;
            }
            latest = reading;
        }
        return what == 0 ? times : first;
    }

    public int worst(int what) {
        if (!isFirstOrSecond(what)) {
            return BAD;
        }
        int most = NONE;
        int first = NONE;
        for (int q = 0; q < QUARTERS; q++) {
            int reading = now.reading(q);
            if (reading != NONE && Math.abs(reading - q) > most) {
                most = Math.abs(reading - q);
                first = q;
            }
        }
        return what == 0 ? most : first;
    }

    public int done(int what) {
        if (what < 0 || what > 3) {
            return BAD;
        }
        int bits = 0;
        for (int i = 0; i < now.deeds; i++) {
            if (timelinessOf(i) == what) {
                bits |= 1 << i;
            }
        }
        return bits;
    }

    /** As done() numbers it: 0 too early, 1 in time, 2 too late, 3 never. */
    private int timelinessOf(int i) {
        int quarter = now.doneAt(i);
        if (quarter == NONE) {
            return 3;
        }
        if (quarter == now.dues[i]) {
            return 1;
        }
        return quarter < now.dues[i] ? 0 : 2;
    }

    // ---- what is best

    public int lean(int m, int i, int quarter) {
        if (!now.hasMan(m) || !now.hasDeed(i) || !isQuarter(quarter)) {
            return BAD;
        }
        trial.copyOf(now);
        for (int lean : NEAREST_LEANS) {
            trial.setLean(m, lean);
            int at = trial.doneAt(i);
            if (at != NONE && at <= quarter) {
                return lean;
            }
        }
        return NONE;
    }

    public int mark(int what) {
        if (!isFirstOrSecond(what)) {
            return BAD;
        }
        trial.copyOf(now);
        int best = NONE;
        int least = Integer.MAX_VALUE;
        for (int v = 0; v < PAINTS; v++) {
            trial.setPainted(v);
            int harm = trial.harm();
            if (harm < least) {
                least = harm;
                best = v;
            }
        }
        return what == 0 ? best : least;
    }

    public int give(int what) {
        if (!isFirstOrSecond(what)) {
            return BAD;
        }
        trial.copyOf(now);
        int best = NONE;
        int least = now.harm();
        for (int hour = 0; hour < HOURS; hour++) {
            for (int m = 0; m < now.men; m++) {
                trial.setStands(hour, m);
                int harm = trial.harm();
                if (harm < least) {
                    least = harm;
                    best = 10 * hour + m;
                }
            }
            trial.setStands(hour, now.stands[hour]);
        }
        return what == 0 || best == NONE ? best : least;
    }

    public int swap(int what) {
        if (!isFirstOrSecond(what)) {
            return BAD;
        }
        trial.copyOf(now);
        int best = NONE;
        int least = now.harm();
        for (int a = 0; a < HOURS; a++) {
            for (int b = a + 1; b < HOURS; b++) {
                int harm = harmOfSwapped(a, b);
                if (harm < least) {
                    least = harm;
                    best = 100 * a + b;
                }
            }
        }
        return what == 0 || best == NONE ? best : least;
    }

    /** Leaves trial as it was. */
    private int harmOfSwapped(int a, int b) {
        trial.exchange(a, b);
        int harm = trial.harm();
        trial.exchange(a, b);
        return harm;
    }

    public int sole(int what) {
        if (!isFirstOrSecond(what)) {
            return BAD;
        }
        trial.copyOf(now);
        int best = NONE;
        int least = Integer.MAX_VALUE;
        for (int m = 0; m < now.men; m++) {
            trial.setAllStand(m);
            int harm = trial.harm();
            if (harm < least) {
                least = harm;
                best = m;
            }
        }
        return what == 0 || best == NONE ? best : least;
    }

    // ---- clouds by odds

    public long mean(int v, int what) {
        if (v < 0 || v > MOST_ODDS || !isFirstOrSecond(what)) {
            return BAD;
        }
        long sum = 0;
        for (int i = 0; i < now.deeds; i++) {
            sum += weighedHarm(i, v);
        }
        return partOfFraction(sum, what);
    }

    public long luck(int v, int i, int what) {
        if (v < 0 || v > MOST_ODDS || !now.hasDeed(i) || !isFirstOrSecond(what)) {
            return BAD;
        }
        return partOfFraction(WHOLE - oddsOfNever(i, v), what);
    }

    /**
     * The mean HARM of a DEED, in parts of WHOLE. What an HOUR READS does not depend on CLOUDS
     * in other HOURS, so the DEED goes from HOUR to HOUR until one stays clear.
     */
    private long weighedHarm(int i, int v) {
        long sum = 0;
        long left = WHOLE;
        for (int hour = 0; hour < HOURS; hour++) {
            int quarter = now.firstIn(hour, now.dues[i]);
            if (quarter != NONE) {
                sum += left / MOST_ODDS * (MOST_ODDS - v) * now.harmAt(i, quarter);
                left = left / MOST_ODDS * v;
            }
        }
        return sum + left * now.harmAt(i, NONE);
    }

    private long oddsOfNever(int i, int v) {
        long left = WHOLE;
        for (int hour = 0; hour < HOURS; hour++) {
            if (now.firstIn(hour, now.dues[i]) != NONE) {
                left = left / MOST_ODDS * v;
            }
        }
        return left;
    }

    /** Of a number of parts of WHOLE in lowest terms: 0 the numerator, 1 the denominator. */
    private static long partOfFraction(long parts, int what) {
        long a = WHOLE;
        long b = parts;
        // Euclid's steps on numbers below 2 to the 63rd are fewer than 100.
        for (int step = 0; step < 100 && b > 0; step++) {
            long rest = a % b;
            a = b;
            b = rest;
        }
        if (a <= 0) {
            return BAD;
        }
        return (what == 0 ? parts : WHOLE) / a;
    }

    // ---- how one leant

    public int see(int i, int quarter) {
        if (!now.hasDeed(i) || !isQuarter(quarter) && quarter != NONE) {
            return BAD;
        }
        if (seenCount >= MOST_SEEN) {
            return FULL;
        }
        seenDeeds[seenCount] = i;
        seenQuarters[seenCount] = quarter;
        seenCount++;
        return seenCount;
    }

    public int forget(int n) {
        if (n < 0 || n > seenCount) {
            return BAD;
        }
        int had = seenCount;
        seenCount = n;
        return had;
    }

    public int leans(int m) {
        return now.hasMan(m) ? leansAsSeen(m) : BAD;
    }

    public int kinds(int m) {
        if (!now.hasMan(m)) {
            return BAD;
        }
        trial.copyOf(now);
        int bits = 0;
        for (int kind = 0; kind < KINDS; kind++) {
            trial.setKind(m, kind);
            if (trialIsAsSeen()) {
                bits |= 1 << kind;
            }
        }
        return bits;
    }

    public int ask(int m, int what) {
        if (!now.hasMan(m) || !isFirstOrSecond(what)) {
            return BAD;
        }
        int possible = leansAsSeen(m);
        int best = NONE;
        int fewest = Integer.bitCount(possible);
        for (int i = 0; i < now.deeds; i++) {
            int left = mostLeft(m, i, possible);
            if (left < fewest) {
                fewest = left;
                best = i;
            }
        }
        return what == 0 || best == NONE ? best : fewest;
    }

    private int leansAsSeen(int m) {
        trial.copyOf(now);
        int bits = 0;
        for (int lean = 0; lean < LEANS; lean++) {
            trial.setLean(m, lean);
            if (trialIsAsSeen()) {
                bits |= 1 << lean;
            }
        }
        return bits;
    }

    private boolean trialIsAsSeen() {
        for (int s = 0; s < seenCount; s++) {
            int i = seenDeeds[s];
            if (!trial.hasDeed(i) || trial.doneAt(i) != seenQuarters[s]) {
                return false;
            }
        }
        return true;
    }

    /** How many of the possible LEANS a DEED leaves by the answer that tells least. */
    private int mostLeft(int m, int i, int possible) {
        trial.copyOf(now);
        int most = 0;
        for (int lean = 0; lean < LEANS; lean++) {
            if ((possible >> lean & 1) == 0) {
                continue;
            }
            trial.setLean(m, lean);
            doneByLean[lean] = trial.doneAt(i);
            int alike = 1;
            for (int before = 0; before < lean; before++) {
                if ((possible >> before & 1) == 1 && doneByLean[before] == doneByLean[lean]) {
                    alike++;
                }
            }
            most = Math.max(most, alike);
        }
        return most;
    }

    // ---- by a seed

    public int drift(int seed, int n, int what) {
        if (n < 1 || n > MOST_DRIFT || !isFirstOrSecond(what)) {
            return BAD;
        }
        if (now.men == 0) {
            return STATE;
        }
        trial.copyOf(now);
        int next = seed;
        int sum = 0;
        for (int t = 0; t < n; t++) {
            next = nextSeed(next);
            int hour = drawn(next, HOURS);
            next = nextSeed(next);
            int m = drawn(next, now.men + 1);
            trial.setStands(hour, m == now.men ? NONE : m);
            sum += trial.harm();
        }
        return what == 0 ? sum : trial.hoursStood();
    }

    private static int nextSeed(int seed) {
        return seed * 1103515245 + 12345;
    }

    private static int drawn(int seed, int bound) {
        return bound < 1 ? 0 : (seed >> 16 & 0x7FFF) % bound;
    }

    // ---- images, sheets

    public int keep(int k) {
        if (k < 0 || k >= IMAGES) {
            return BAD;
        }
        int was = kept[k] ? 1 : 0;
        images[k].copyOf(now);
        kept[k] = true;
        return was;
    }

    public int back(int k) {
        if (k < 0 || k >= IMAGES) {
            return BAD;
        }
        if (!kept[k]) {
            return STATE;
        }
        now.copyOf(images[k]);
        return now.harm();
    }

    public int sheet(int k, int lane, int n) {
        if (!isSheet(k) || !isLane(lane) || n > MOST_CELLS) {
            return BAD;
        }
        if (n < 0) {
            return -10 - Sheet.SIZE;
        }
        sheets[k].renew(lane, n);
        return 1;
    }

    public int lay(int k, int i, int v) {
        if (!isSheet(k)) {
            return BAD;
        }
        Sheet row = sheets[k];
        int refusal = row.refusal(row.lane, i);
        if (refusal != Sheet.NO_FAULT) {
            return -10 - refusal;
        }
        row.put(i, v);
        return 1;
    }

    public int read(int k, int lane, int f, int n) {
        if (!isSheet(k) || !isLane(lane) || n < 0 || n > MOST_READ) {
            return BAD;
        }
        Sheet row = sheets[k];
        int refusal = Sheet.NO_FAULT;
        int whole = 0;
        // All are looked at before any comes, for one that is BAD keeps back those ahead of it.
        for (int t = 0; t < n && refusal == Sheet.NO_FAULT; t++) {
            int at = f + 2 * t;
            refusal = row.refusalOfPair(lane, at);
            if (refusal == Sheet.NO_FAULT) {
                if (!mayStand(row.cells[at], row.cells[at + 1])) {
                    return -20 - t;
                }
                whole++;
            }
        }
        for (int t = 0; t < whole; t++) {
            now.setStands(row.cells[f + 2 * t], row.cells[f + 2 * t + 1]);
        }
        latestTorn = refusal;
        return whole;
    }

    public int torn() {
        return latestTorn;
    }

    public int count(int what) {
        switch (what) {
            case 0: return seenCount;
            case 1: return imagesKept();
            case 2: return tape.length;
            case 3: return sheets[0].lane == Sheet.NO_LANE ? NONE : sheets[0].size;
            case 4: return now.allWorth();
            case 5: return now.quartersRead();
            default: return BAD;
        }
    }

    private int imagesKept() {
        int sum = 0;
        for (int k = 0; k < IMAGES; k++) {
            sum += kept[k] ? 1 : 0;
        }
        return sum;
    }

    // ---- what is as told

    private boolean mayStand(int hour, int m) {
        return isHour(hour) && (m == NONE || now.hasMan(m));
    }

    private static boolean isFirstOrSecond(int what) {
        return what == 0 || what == 1;
    }

    private static boolean isHour(int hour) {
        return hour >= 0 && hour < HOURS;
    }

    private static boolean isQuarter(int quarter) {
        return quarter >= 0 && quarter < QUARTERS;
    }

    private static boolean isWorth(int worth) {
        return worth >= 1 && worth <= MOST_WORTH;
    }

    private static boolean isSheet(int k) {
        return k >= 0 && k < SHEETS;
    }

    private static boolean isLane(int lane) {
        return lane >= 0 && lane < LANES;
    }

    /** MEN, THE ROTA, CLOUDS, PAINT, DEEDS: what a text tells and an IMAGE keeps. */
    private static final class Town {
        final int[] kindOf = new int[MOST_MEN];
        final int[] leanOf = new int[MOST_MEN];
        final int[] stands = new int[HOURS];
        final int[] dues = new int[MOST_DEEDS];
        final int[] worths = new int[MOST_DEEDS];
        /**
         * How far the hand points ahead in an HOUR. It is one number for all four QUARTERS: STOOD
         * is a multiple of 4 where an HOUR begins, so no count of 8 is filled within one.
         */
        final int[] bends = new int[HOURS];
        int men;
        int deeds;
        int clouds;
        int painted;

        Town() {
            clear();
        }

        void clear() {
            men = 0;
            deeds = 0;
            clouds = 0;
            painted = MIDDLE;
            setAllStand(NONE);
        }

        void copyOf(Town from) {
            System.arraycopy(from.kindOf, 0, kindOf, 0, MOST_MEN);
            System.arraycopy(from.leanOf, 0, leanOf, 0, MOST_MEN);
            System.arraycopy(from.stands, 0, stands, 0, HOURS);
            System.arraycopy(from.dues, 0, dues, 0, MOST_DEEDS);
            System.arraycopy(from.worths, 0, worths, 0, MOST_DEEDS);
            System.arraycopy(from.bends, 0, bends, 0, HOURS);
            men = from.men;
            deeds = from.deeds;
            clouds = from.clouds;
            painted = from.painted;
        }

        boolean hasMan(int m) {
            return m >= 0 && m < men;
        }

        boolean hasDeed(int i) {
            return i >= 0 && i < deeds;
        }

        boolean isCloudy(int hour) {
            return (clouds >> hour & 1) == 1;
        }

        void setCloudy(int hour, boolean is) {
            clouds = is ? clouds | 1 << hour : clouds & ~(1 << hour);
        }

        void setKind(int m, int kind) {
            kindOf[m] = kind;
            reckonBends();
        }

        void setLean(int m, int lean) {
            leanOf[m] = lean;
            reckonBends();
        }

        void setPainted(int v) {
            painted = v;
            reckonBends();
        }

        void setStands(int hour, int m) {
            stands[hour] = m;
            reckonBends();
        }

        void exchange(int a, int b) {
            int first = stands[a];
            stands[a] = stands[b];
            stands[b] = first;
            reckonBends();
        }

        void setAllStand(int m) {
            for (int hour = 0; hour < HOURS; hour++) {
                stands[hour] = m;
            }
            reckonBends();
        }

        boolean addMan(int kind, int lean) {
            if (men >= MOST_MEN) {
                return false;
            }
            kindOf[men] = kind;
            leanOf[men] = lean;
            men++;
            reckonBends();
            return true;
        }

        boolean addDeed(int due, int worth) {
            if (deeds >= MOST_DEEDS) {
                return false;
            }
            dues[deeds] = due;
            worths[deeds] = worth;
            deeds++;
            return true;
        }

        void reckonBends() {
            int stood = 0;
            for (int hour = 0; hour < HOURS; hour++) {
                int m = stands[hour];
                boolean goesOn = hour > 0 && m == stands[hour - 1];
                stood = goesOn ? stood + PER_HOUR : 0;
                bends[hour] = hasMan(m) ? slip(kindOf[m], hour, stood) + leanOf[m] + painted - 2 * MIDDLE : 0;
            }
        }

        static int slip(int kind, int hour, int stood) {
            switch (kind) {
                case 1: return -1;
                case 2: return -1 - stood / 8;
                case 3: return hour % 2 == 0 ? 1 : -1;
                default: return 0;
            }
        }

        boolean readsIn(int hour) {
            return stands[hour] != NONE && !isCloudy(hour);
        }

        int reading(int quarter) {
            int hour = quarter / PER_HOUR;
            if (!readsIn(hour)) {
                return NONE;
            }
            return Math.max(0, Math.min(QUARTERS - 1, quarter + bends[hour]));
        }

        /**
         * The first QUARTER of an HOUR in which a DUE is READ or passed; NONE. What is READ grows by
         * one a QUARTER, and where it is held at 0 or 47 that matters to no DUE but 0.
         */
        int firstIn(int hour, int due) {
            if (!readsIn(hour)) {
                return NONE;
            }
            int first = hour * PER_HOUR;
            int quarter = due == 0 ? first : Math.max(first, due - bends[hour]);
            return quarter < first + PER_HOUR ? quarter : NONE;
        }

        int doneAt(int i) {
            for (int hour = 0; hour < HOURS; hour++) {
                int quarter = firstIn(hour, dues[i]);
                if (quarter != NONE) {
                    return quarter;
                }
            }
            return NONE;
        }

        /** HARM of a DEED if it is DONE in that QUARTER (NONE: never). */
        int harmAt(int i, int quarter) {
            return worths[i] * (quarter == NONE ? NEVER_HARM : Math.abs(quarter - dues[i]));
        }

        /** HARM of all DEEDS. */
        int harm() {
            int sum = 0;
            for (int i = 0; i < deeds; i++) {
                sum += harmAt(i, doneAt(i));
            }
            return sum;
        }

        int hoursStood() {
            int bits = 0;
            for (int hour = 0; hour < HOURS; hour++) {
                if (stands[hour] != NONE) {
                    bits |= 1 << hour;
                }
            }
            return bits;
        }

        int hoursOf(int m) {
            int bits = 0;
            for (int hour = 0; hour < HOURS; hour++) {
                if (stands[hour] == m) {
                    bits |= 1 << hour;
                }
            }
            return bits;
        }

        int longestStood(int m) {
            int run = 0;
            int longest = 0;
            for (int hour = 0; hour < HOURS; hour++) {
                run = stands[hour] == m ? run + 1 : 0;
                longest = Math.max(longest, run);
            }
            return longest == 0 ? NONE : longest * PER_HOUR - 1;
        }

        boolean allWhoStandAreThere() {
            for (int hour = 0; hour < HOURS; hour++) {
                if (stands[hour] != NONE && !hasMan(stands[hour])) {
                    return false;
                }
            }
            return true;
        }

        int allWorth() {
            int sum = 0;
            for (int i = 0; i < deeds; i++) {
                sum += worths[i];
            }
            return sum;
        }

        int quartersRead() {
            int sum = 0;
            for (int hour = 0; hour < HOURS; hour++) {
                sum += readsIn(hour) ? PER_HOUR : 0;
            }
            return sum;
        }
    }

    /** THE TAPE, and the reading of a text from it, TOKEN by TOKEN. */
    private static final class Tape {
        static final int NO_FAULT = 0, NO_TOKEN = 1, MISPLACED = 2, OUT_OF_BOUNDS = 3;
        static final int TWICE = 4, TOO_MANY = 5, NO_SUCH_MAN = 6;
        static final int END_TOKEN = 0, NAME = 1, NUMBER = 2, STOP = 3;
        /** Names of lines below it are those of KINDS. */
        static final int ROTA = 4, CLOUD = 5, PAINT = 6, DEED = 7, NO_LINE = 8;
        static final int MOST_BYTES = 160;
        static final int MOST_FIGURES = 2;
        static final int NOBODY = 4;

        final byte[] bytes = new byte[MOST_BYTES];
        int length;
        int faultMet;
        int faultPlace;
        int token;
        int tokenPlace;
        int tokenEnd;
        int number;
        boolean rotaTold;
        boolean paintTold;

        boolean add(int c) {
            if (length >= MOST_BYTES) {
                return false;
            }
            bytes[length] = (byte) c;
            length++;
            return true;
        }

        /** Fills the town, as far as the text goes without a FAULT: how many lines. */
        int tell(Town town) {
            town.clear();
            faultMet = NO_FAULT;
            faultPlace = 0;
            tokenEnd = 0;
            rotaTold = false;
            paintTold = false;
            int lines = 0;
            next();
            // No line is shorter than two bytes, so there are fewer lines than bytes.
            for (int t = 0; t < MOST_BYTES && isGood() && token != END_TOKEN; t++) {
                takeLine(town);
                lines++;
                if (isGood()) {
                    next();
                }
            }
            if (isGood() && !town.allWhoStandAreThere()) {
                fail(NO_SUCH_MAN, length);
            }
            return lines;
        }

        boolean isGood() {
            return faultMet == NO_FAULT;
        }

        void fail(int fault, int place) {
            faultMet = fault;
            faultPlace = place;
        }

        void takeLine(Town town) {
            int line = token == NAME ? lineOfName() : NO_LINE;
            switch (line) {
                case NO_LINE: fail(MISPLACED, tokenPlace); break;
                case ROTA: takeRota(town); break;
                case CLOUD: takeCloud(town); break;
                case PAINT: takePaint(town); break;
                case DEED: takeDeed(town); break;
                default: takeMan(town, line); break;
            }
        }

        void takeMan(Town town, int kind) {
            if (town.men >= MOST_MEN) {
                fail(TOO_MANY, tokenPlace);
                return;
            }
            int lean = takeNumber(0, LEANS - 1);
            if (isGood()) {
                town.addMan(kind, lean);
                takeStop();
            }
        }

        void takeRota(Town town) {
            if (rotaTold) {
                fail(TWICE, tokenPlace);
                return;
            }
            rotaTold = true;
            for (int hour = 0; hour <= HOURS; hour++) {
                next();
                if (!isGood() || token == STOP) {
                    return;
                }
                if (hour == HOURS) {
                    // At the end nothing stands in the 13th place, so nothing is too many.
                    fail(token == END_TOKEN ? MISPLACED : TOO_MANY, tokenPlace);
                    return;
                }
                judgeNumber(0, NOBODY);
                if (!isGood()) {
                    return;
                }
                town.setStands(hour, number == NOBODY ? NONE : number);
            }
        }

        void takeCloud(Town town) {
            int hour = takeNumber(0, HOURS - 1);
            if (!isGood()) {
                return;
            }
            if (town.isCloudy(hour)) {
                fail(TWICE, tokenPlace);
                return;
            }
            town.setCloudy(hour, true);
            takeStop();
        }

        void takePaint(Town town) {
            if (paintTold) {
                fail(TWICE, tokenPlace);
                return;
            }
            paintTold = true;
            int v = takeNumber(0, PAINTS - 1);
            if (isGood()) {
                town.setPainted(v);
                takeStop();
            }
        }

        void takeDeed(Town town) {
            if (town.deeds >= MOST_DEEDS) {
                fail(TOO_MANY, tokenPlace);
                return;
            }
            int due = takeNumber(0, QUARTERS - 1);
            if (!isGood()) {
                return;
            }
            int worth = takeNumber(1, MOST_WORTH);
            if (isGood()) {
                town.addDeed(due, worth);
                takeStop();
            }
        }

        /** The next TOKEN as a NUMBER; 0 with a FAULT if it is none within the bounds. */
        int takeNumber(int least, int most) {
            next();
            if (isGood()) {
                judgeNumber(least, most);
            }
            return isGood() ? number : 0;
        }

        void judgeNumber(int least, int most) {
            if (token != NUMBER) {
                fail(MISPLACED, tokenPlace);
            } else if (number < least || number > most) {
                fail(OUT_OF_BOUNDS, tokenPlace);
            }
        }

        void takeStop() {
            next();
            if (isGood() && token != STOP) {
                fail(MISPLACED, tokenPlace);
            }
        }

        void next() {
            tokenPlace = behindBlanks(tokenEnd);
            tokenEnd = tokenPlace;
            if (tokenPlace >= length) {
                token = END_TOKEN;
                return;
            }
            int c = bytes[tokenPlace];
            if (c == ';') {
                token = STOP;
                tokenEnd = tokenPlace + 1;
            } else if (isLetter(c)) {
                token = NAME;
                tokenEnd = behindLetters(tokenPlace);
            } else if (isFigure(c)) {
                token = NUMBER;
                tokenEnd = behindFigures(tokenPlace);
                number = numberOfToken();
            }
            boolean isNone = tokenEnd == tokenPlace;
            if (isNone || token == NUMBER && tokenEnd - tokenPlace > MOST_FIGURES) {
                fail(NO_TOKEN, tokenPlace);
            }
        }

        /** Of more than MOST_FIGURES it is not used, so it may run over. */
        int numberOfToken() {
            int value = 0;
            for (int p = tokenPlace; p < tokenEnd; p++) {
                value = 10 * value + bytes[p] - '0';
            }
            return value;
        }

        int behindBlanks(int from) {
            int p = from;
            while (p < length && bytes[p] == ' ') {
                p++;
            }
            return p;
        }

        int behindLetters(int from) {
            int p = from;
            while (p < length && isLetter(bytes[p])) {
                p++;
            }
            return p;
        }

        int behindFigures(int from) {
            int p = from;
            while (p < length && isFigure(bytes[p])) {
                p++;
            }
            return p;
        }

        static boolean isLetter(int c) {
            return c >= 'a' && c <= 'z';
        }

        static boolean isFigure(int c) {
            return c >= '0' && c <= '9';
        }

        int lineOfName() {
            for (int line = 0; line < NO_LINE; line++) {
                if (tokenSpells(nameOfLine(line))) {
                    return line;
                }
            }
            return NO_LINE;
        }

        static String nameOfLine(int line) {
            switch (line) {
                case 0: return "upright";
                case 1: return "stooped";
                case 2: return "tired";
                case 3: return "lover";
                case ROTA: return "rota";
                case CLOUD: return "cloud";
                case PAINT: return "paint";
                default: return "deed";
            }
        }

        boolean tokenSpells(String name) {
            if (tokenEnd - tokenPlace != name.length()) {
                return false;
            }
            for (int p = 0; p < name.length(); p++) {
                if (bytes[tokenPlace + p] != name.charAt(p)) {
                    return false;
                }
            }
            return true;
        }
    }

    /** A row of BYTES, SHORTS or INTS. Its CELLS hold what the lane leaves of a number. */
    private static final class Sheet {
        static final int NO_FAULT = 0, NULL = 1, INDEX = 2, CAST = 3, SIZE = 4;
        static final int BYTES = 0, SHORTS = 1;
        static final int NO_LANE = -1;

        final int[] cells = new int[MOST_CELLS];
        int lane = NO_LANE;
        int size;

        void renew(int newLane, int newSize) {
            lane = newLane;
            size = newSize;
            for (int i = 0; i < MOST_CELLS; i++) {
                cells[i] = 0;
            }
        }

        /** The FAULT that the machine finds at a CELL of this SHEET taken as of a lane. */
        int refusal(int asLane, int i) {
            if (lane == NO_LANE) {
                return NULL;
            }
            if (lane != asLane) {
                return CAST;
            }
            return i < 0 || i >= size ? INDEX : NO_FAULT;
        }

        int refusalOfPair(int asLane, int i) {
            int first = refusal(asLane, i);
            return first != NO_FAULT ? first : refusal(asLane, i + 1);
        }

        void put(int i, int v) {
            if (lane == BYTES) {
                cells[i] = (byte) v;
            } else if (lane == SHORTS) {
                cells[i] = (short) v;
            } else {
                cells[i] = v;
            }
        }
    }
}
