/** A weathercock under oath, and what its winds and its fellows on the hill can have been. */
public final class SwornVane {
    public static final int NONE = -1, UNKNOWN = -101, OUTSIDE = -102, STATE = -103, FULL = -104;

    private static final int QUARTERS = 4;
    private static final int ALL_QUARTERS = 15;
    private static final int TWISTS = 4;
    private static final int MOST_HOURS = 6;
    private static final int MOST_VANES = 4;
    private static final int MOST_LETTERS = 8;
    private static final int MOST_SEEN = 10;
    private static final int MOST_INQUIRIES = 30;
    private static final int MOST_DAYS = 40;

    private static final int PLAIN = 0, RUSTY = 1, LEE = 2, OILED = 3, COURT = 4;
    private static final int KINDS = 5;

    private final Page page;
    private final Hill hill;
    private final Hill kept;
    private final Tally tally;
    private final Witnesses witnesses;
    private boolean isKept;
    private int readings;
    private int inquiries;

    public SwornVane() {
        page = new Page();
        hill = new Hill();
        kept = new Hill();
        tally = new Tally(hill);
        witnesses = new Witnesses(hill);
    }

    // ---- the day

    public int letter(int code) {
        if (code < 32 || code > 126) {
            return OUTSIDE;
        }
        return page.add(code) ? page.length : FULL;
    }

    public int blank() {
        int had = page.length;
        page.length = 0;
        return had;
    }

    public int fault() {
        return page.firstFault();
    }

    public int day() {
        if (page.length == 0 || page.firstFault() < page.length) {
            return STATE;
        }
        hill.begin(page);
        page.length = 0;
        isKept = false;
        readings++;
        tally.isStale = true;
        return hill.hours;
    }

    public int wind(int hour, int quarter) {
        if (!hill.hasHour(hour)) {
            return UNKNOWN;
        }
        if (quarter != NONE && !isQuarter(quarter)) {
            return OUTSIDE;
        }
        int was = hill.winds[hour];
        hill.winds[hour] = quarter;
        tally.isStale = true;
        return was;
    }

    // ---- vanes

    public int vane(int kind, int start, int twist) {
        if (!isKind(kind) || !isQuarter(start) || !isTwist(twist)) {
            return OUTSIDE;
        }
        if (hill.hours == 0) {
            return STATE;
        }
        if (hill.vanes >= MOST_VANES) {
            return FULL;
        }
        hill.raise(kind, start, twist);
        tally.isStale = true;
        return hill.vanes - 1;
    }

    public int about(int vane, int what) {
        if (!hill.hasVane(vane)) {
            return UNKNOWN;
        }
        switch (what) {
            case 0:
                return hill.kinds[vane];
            case 1:
                return hill.starts[vane];
            case 2:
                return hill.twists[vane];
            case 3:
                return hill.seenOf[vane];
            default:
                return isQuarter(what - 10)
                        ? Hill.turned(hill.kinds[vane], hill.twists[vane], 0, what - 10)
                        : OUTSIDE;
        }
    }

    public int as(int vane, int kind) {
        if (!hill.hasVane(vane)) {
            return UNKNOWN;
        }
        if (!isKind(kind)) {
            return OUTSIDE;
        }
        return isSuch(hill.kinds[vane], kind) ? vane : NONE;
    }

    public int oil(int vane, int v) {
        if (!hill.hasVane(vane)) {
            return UNKNOWN;
        }
        if (!isTwist(v)) {
            return OUTSIDE;
        }
        int was = hill.twists[vane];
        hill.twists[vane] = v;
        tally.isStale = true;
        return was;
    }

    public int see(int vane, int hour, int quarter) {
        if (!hill.hasVane(vane) || !hill.hasHour(hour)) {
            return UNKNOWN;
        }
        if (!isQuarter(quarter)) {
            return OUTSIDE;
        }
        if (hill.seen >= MOST_SEEN) {
            return FULL;
        }
        hill.witness(vane, hour, quarter);
        tally.isStale = true;
        return hill.seen;
    }

    public int forget() {
        int had = hill.seen;
        hill.clearSeen();
        tally.isStale = true;
        return had;
    }

    // ---- what can be

    public int fitting() {
        if (hill.hours == 0) {
            return STATE;
        }
        tally.refresh();
        return tally.all;
    }

    public int points(int vane, int hour) {
        if (!hill.hasVane(vane) || !hill.hasHour(hour)) {
            return UNKNOWN;
        }
        tally.refresh();
        return tally.pointed(vane, hour);
    }

    public int blows(int hour) {
        if (!hill.hasHour(hour)) {
            return UNKNOWN;
        }
        tally.refresh();
        return tally.blown(hour);
    }

    public int ask(int what) {
        if (what < 0 || what > 2) {
            return OUTSIDE;
        }
        if (isInquiryClosed()) {
            return STATE;
        }
        inquiries++;
        tally.refresh();
        if (tally.all == 0) {
            return NONE;
        }
        int place = tally.bestPlace();
        int vane = place / MOST_HOURS;
        int hour = place % MOST_HOURS;
        if (what == 0) {
            return vane;
        }
        return what == 1 ? hour : tally.worst(vane, hour);
    }

    public int proof(int hour, int what) {
        if (!hill.hasHour(hour)) {
            return UNKNOWN;
        }
        if (what < 0 || what > 1) {
            return OUTSIDE;
        }
        if (isInquiryClosed()) {
            return STATE;
        }
        inquiries++;
        return sizeOrSet(fewestWitnesses(hour), what);
    }

    public int sorts(int vane, int what) {
        if (!hill.hasVane(vane)) {
            return UNKNOWN;
        }
        if (what < 0 || what > 1) {
            return OUTSIDE;
        }
        if (isInquiryClosed()) {
            return STATE;
        }
        inquiries++;
        int possible = possibleSorts(vane);
        if (what == 0) {
            return Integer.bitCount(possible);
        }
        return leastOf(possible);
    }

    public int oiling(int hour, int quarter, int what) {
        if (!hill.hasHour(hour)) {
            return UNKNOWN;
        }
        if (!isQuarter(quarter) || what < 0 || what > 1) {
            return OUTSIDE;
        }
        if (hill.vanes == 0 || !hill.isKnownUntil(hour)) {
            return STATE;
        }
        return sizeOrSet(fewestToOil(hour, quarter), what);
    }

    public int gusts(int days, int seed, int what) {
        if (days < 1 || days > MOST_DAYS || seed < 0 || what < 0 || what > 1) {
            return OUTSIDE;
        }
        if (hill.hours == 0) {
            return STATE;
        }
        int drawn = seed;
        int hits = 0;
        for (int d = 0; d < days; d++) {
            int pose = hill.startPose();
            for (int h = 0; h < hill.hours; h++) {
                int wind = hill.winds[h];
                if (wind == NONE) {
                    drawn = nextSeed(drawn);
                    wind = drawn / 65536 % QUARTERS;
                }
                pose = hill.turnedPose(pose, wind);
                if (hill.isMoreThanHalf(hill.pointingAt(pose, wind))) {
                    hits++;
                }
            }
        }
        return what == 0 ? hits : drawn;
    }

    // ---- what is told of all

    public int image() {
        if (hill.hours == 0) {
            return STATE;
        }
        kept.become(hill);
        isKept = true;
        return hill.vanes;
    }

    public int restore() {
        if (!isKept) {
            return STATE;
        }
        hill.become(kept);
        tally.isStale = true;
        return hill.vanes;
    }

    public int count(int what) {
        switch (what) {
            case 0:
                return hill.hours;
            case 1:
                return hill.knownWinds();
            case 2:
                return hill.vanes;
            case 3:
                return hill.seen;
            case 4:
                return page.length;
            case 5:
                return readings;
            case 6:
                return inquiries;
            default:
                return OUTSIDE;
        }
    }

    public long digest() {
        long h = 823;
        for (int v = 0; v < hill.vanes; v++) {
            h = digestOfVane(h, v);
        }
        for (int hour = 0; hour < hill.hours; hour++) {
            h = 31 * h + blows(hour);
        }
        if (hill.hours > 0) {
            h = 31 * h + fitting();
        }
        for (int i = 0; i < page.length; i++) {
            h = 31 * h + page.codes[i];
        }
        for (int what = 0; what <= 6; what++) {
            h = 31 * h + count(what);
        }
        return h;
    }

    // ---- helpers of the face

    private long digestOfVane(long before, int vane) {
        long h = before;
        for (int what = 0; what <= 3; what++) {
            h = 31 * h + about(vane, what);
        }
        for (int what = 10; what <= 13; what++) {
            h = 31 * h + about(vane, what);
        }
        for (int hour = 0; hour < hill.hours; hour++) {
            h = 31 * h + points(vane, hour);
        }
        return h;
    }

    private boolean isInquiryClosed() {
        return hill.vanes == 0 || inquiries >= MOST_INQUIRIES;
    }

    /** The set of VANES that proves the WIND of the hour, as bits, or NONE. */
    private int fewestWitnesses(int hour) {
        tally.refresh();
        if (tally.all == 0) {
            return NONE;
        }
        // the Witnesses' rows are too short for the empty set, so it is judged by the tally
        if (Integer.bitCount(tally.blown(hour)) == 1) {
            return 0;
        }
        int best = NONE;
        for (int set = 1; set < 1 << hill.vanes; set++) {
            if (isFewer(set, best) && witnesses.tell(set, hour)) {
                best = set;
            }
        }
        return best;
    }

    /** Which SORTS the VANE can be, as bits 0 to 19. */
    private int possibleSorts(int vane) {
        int kind = hill.kinds[vane];
        int twist = hill.twists[vane];
        int possible = 0;
        for (int sort = 0; sort < KINDS * TWISTS; sort++) {
            hill.kinds[vane] = sort / TWISTS;
            hill.twists[vane] = sort % TWISTS;
            if (hill.hasFitting()) {
                possible |= 1 << sort;
            }
        }
        hill.kinds[vane] = kind;
        hill.twists[vane] = twist;
        return possible;
    }

    private static int leastOf(int bits) {
        for (int i = 0; i < 32; i++) {
            if ((bits >> i & 1) == 1) {
                return i;
            }
        }
        return NONE;
    }

    /** The set of VANES to oil, as bits, or NONE. */
    private int fewestToOil(int hour, int quarter) {
        int asTheyAre = 0;
        int oiled = 0;
        for (int v = 0; v < hill.vanes; v++) {
            for (int twist = 0; twist < TWISTS; twist++) {
                if (hill.pointWith(v, twist, hour) != quarter) {
                    continue;
                }
                if (twist == hill.twists[v]) {
                    asTheyAre |= 1 << v;
                } else {
                    oiled |= 1 << v;
                }
            }
        }
        int best = NONE;
        for (int set = 0; set < 1 << hill.vanes; set++) {
            int there = asTheyAre & ~set | oiled & set;
            if (isFewer(set, best) && hill.isMoreThanHalf(Integer.bitCount(there))) {
                best = set;
            }
        }
        return best;
    }

    private static boolean isFewer(int set, int best) {
        return best == NONE || Integer.bitCount(set) < Integer.bitCount(best);
    }

    private static int sizeOrSet(int set, int what) {
        return set == NONE || what == 1 ? set : Integer.bitCount(set);
    }

    private static boolean isQuarter(int quarter) {
        return quarter >= 0 && quarter < QUARTERS;
    }

    private static boolean isTwist(int twist) {
        return twist >= 0 && twist < TWISTS;
    }

    private static boolean isKind(int kind) {
        return kind >= 0 && kind < KINDS;
    }

    private static boolean isSuch(int own, int kind) {
        return kind == PLAIN || kind == own || own == COURT && kind == OILED;
    }

    private static int nextSeed(int seed) {
        // int arithmetic wraps at 2 to the 32, so the low 31 bits are those of the true product
        return 1103515245 * seed + 12345 & 0x7fffffff;
    }

    /** THE PAGE: its letters by their codes. */
    private static final class Page {
        final int[] codes = new int[MOST_LETTERS];
        int length;

        boolean add(int code) {
            if (length >= codes.length) {
                return false;
            }
            codes[length] = code;
            length++;
            return true;
        }

        int firstFault() {
            for (int i = 0; i < length; i++) {
                if (i >= MOST_HOURS || !isOfDay(codes[i])) {
                    return i;
                }
            }
            return length;
        }

        static boolean isOfDay(int code) {
            return code == '?' || windOf(code) != NONE;
        }

        static int windOf(int code) {
            switch (code) {
                case 'n':
                    return 0;
                case 'e':
                    return 1;
                case 's':
                    return 2;
                case 'w':
                    return 3;
                default:
                    return NONE;
            }
        }
    }

    /**
     * THE DAY, its VANES and what is SEEN of them. Where all VANES point at once is a pose:
     * two bits a VANE, those of VANE 0 lowest.
     */
    private static final class Hill {
        int hours;
        final int[] winds = new int[MOST_HOURS];
        int vanes;
        final int[] kinds = new int[MOST_VANES];
        final int[] starts = new int[MOST_VANES];
        final int[] twists = new int[MOST_VANES];
        int seen;
        final int[] seenOf = new int[MOST_VANES];
        /** For each VANE and HOUR the QUARTERS that what is SEEN leaves, as bits. */
        final int[] left = new int[MOST_VANES * MOST_HOURS];

        boolean hasHour(int hour) {
            return hour >= 0 && hour < hours;
        }

        boolean hasVane(int vane) {
            return vane >= 0 && vane < vanes;
        }

        void begin(Page page) {
            hours = page.length < MOST_HOURS ? page.length : MOST_HOURS;
            for (int h = 0; h < hours; h++) {
                winds[h] = Page.windOf(page.codes[h]);
            }
            vanes = 0;
            clearSeen();
        }

        void raise(int kind, int start, int twist) {
            if (vanes >= MOST_VANES) {
                return;
            }
            kinds[vanes] = kind;
            starts[vanes] = start;
            twists[vanes] = twist;
            vanes++;
        }

        void witness(int vane, int hour, int quarter) {
            left[vane * MOST_HOURS + hour] &= 1 << quarter;
            seenOf[vane]++;
            seen++;
        }

        void clearSeen() {
            seen = 0;
            for (int v = 0; v < MOST_VANES; v++) {
                seenOf[v] = 0;
            }
            for (int i = 0; i < left.length; i++) {
                left[i] = ALL_QUARTERS;
            }
        }

        void become(Hill other) {
            hours = other.hours;
            vanes = other.vanes;
            seen = other.seen;
            for (int h = 0; h < MOST_HOURS; h++) {
                winds[h] = other.winds[h];
            }
            for (int v = 0; v < MOST_VANES; v++) {
                kinds[v] = other.kinds[v];
                starts[v] = other.starts[v];
                twists[v] = other.twists[v];
                seenOf[v] = other.seenOf[v];
            }
            for (int i = 0; i < left.length; i++) {
                left[i] = other.left[i];
            }
        }

        int knownWinds() {
            int known = 0;
            for (int h = 0; h < hours; h++) {
                if (winds[h] != NONE) {
                    known++;
                }
            }
            return known;
        }

        boolean isKnownUntil(int hour) {
            for (int h = 0; h <= hour && h < hours; h++) {
                if (winds[h] == NONE) {
                    return false;
                }
            }
            return true;
        }

        boolean mayBlow(int hour, int wind) {
            return winds[hour] == NONE || winds[hour] == wind;
        }

        /** Where a VANE that pointed at one QUARTER points when it has turned. */
        static int turned(int kind, int twist, int at, int wind) {
            if (kind == LEE) {
                return wind == twist ? at : wind;
            }
            int goal = kind == OILED || kind == COURT ? wind + twist & 3 : wind;
            boolean isSlow = kind == RUSTY || kind == COURT;
            // one QUARTER takes a slow one to its goal, unless that lies behind it
            return isSlow && (goal - at & 3) == 2 ? at + 1 & 3 : goal;
        }

        int startPose() {
            int pose = 0;
            for (int v = 0; v < vanes; v++) {
                pose |= starts[v] << 2 * v;
            }
            return pose;
        }

        int turnedPose(int pose, int wind) {
            int next = 0;
            for (int v = 0; v < vanes; v++) {
                next |= turned(kinds[v], twists[v], pose >> 2 * v & 3, wind) << 2 * v;
            }
            return next;
        }

        /** Whether nothing that is SEEN in the hour speaks against the pose. */
        boolean agrees(int hour, int pose) {
            for (int v = 0; v < vanes; v++) {
                int at = pose >> 2 * v & 3;
                if ((left[v * MOST_HOURS + hour] >> at & 1) == 0) {
                    return false;
                }
            }
            return true;
        }

        boolean hasFitting() {
            return canFit(0, startPose());
        }

        /** Whether some WINDS from the hour on are FITTING, the VANES being in the pose ahead of it. */
        private boolean canFit(int hour, int pose) {
            if (hour >= hours) {
                return true;
            }
            for (int wind = 0; wind < QUARTERS; wind++) {
                if (!mayBlow(hour, wind)) {
                    continue;
                }
                int next = turnedPose(pose, wind);
                if (agrees(hour, next) && canFit(hour + 1, next)) {
                    return true;
                }
            }
            return false;
        }

        /** Where the VANE would point in an HOUR with another TWIST, all WINDS until it being known. */
        int pointWith(int vane, int twist, int hour) {
            int at = starts[vane];
            for (int h = 0; h <= hour && h < hours; h++) {
                at = turned(kinds[vane], twist, at, winds[h]);
            }
            return at;
        }

        int pointingAt(int pose, int quarter) {
            int there = 0;
            for (int v = 0; v < vanes; v++) {
                if ((pose >> 2 * v & 3) == quarter) {
                    there++;
                }
            }
            return there;
        }

        boolean isMoreThanHalf(int some) {
            return 2 * some > vanes;
        }
    }

    /** How many WINDS are FITTING, and by how many of them what pointed or blew where. */
    private static final class Tally {
        final Hill hill;
        /** For each VANE, HOUR and QUARTER by how many that are FITTING it pointed there. */
        final int[] poses = new int[MOST_VANES * MOST_HOURS * QUARTERS];
        /** For each HOUR and QUARTER by how many that are FITTING the WIND came from there. */
        final int[] gales = new int[MOST_HOURS * QUARTERS];
        int all;
        boolean isStale = true;

        Tally(Hill hill) {
            this.hill = hill;
        }

        void refresh() {
            if (!isStale) {
                return;
            }
            for (int i = 0; i < poses.length; i++) {
                poses[i] = 0;
            }
            for (int i = 0; i < gales.length; i++) {
                gales[i] = 0;
            }
            all = walk(0, hill.startPose());
            isStale = false;
        }

        /** Counts the ways from the hour on that are FITTING, and notes what they pass. */
        private int walk(int hour, int pose) {
            if (hour >= hill.hours) {
                return 1;
            }
            int ways = 0;
            for (int wind = 0; wind < QUARTERS; wind++) {
                if (!hill.mayBlow(hour, wind)) {
                    continue;
                }
                int next = hill.turnedPose(pose, wind);
                if (hill.agrees(hour, next)) {
                    int more = walk(hour + 1, next);
                    note(hour, wind, next, more);
                    ways += more;
                }
            }
            return ways;
        }

        private void note(int hour, int wind, int pose, int ways) {
            gales[hour * QUARTERS + wind] += ways;
            for (int v = 0; v < hill.vanes; v++) {
                poses[(v * MOST_HOURS + hour) * QUARTERS + (pose >> 2 * v & 3)] += ways;
            }
        }

        int pointed(int vane, int hour) {
            return bitsOf(poses, (vane * MOST_HOURS + hour) * QUARTERS);
        }

        int blown(int hour) {
            return bitsOf(gales, hour * QUARTERS);
        }

        /** Which of the four counts from a place on are above 0. */
        private static int bitsOf(int[] counts, int from) {
            int bits = 0;
            for (int q = 0; q < QUARTERS; q++) {
                if (counts[from + q] > 0) {
                    bits |= 1 << q;
                }
            }
            return bits;
        }

        /** How many would be FITTING at worst, if the VANE were SEEN in the hour. */
        int worst(int vane, int hour) {
            int from = (vane * MOST_HOURS + hour) * QUARTERS;
            int most = 0;
            for (int q = 0; q < QUARTERS; q++) {
                most = Math.max(most, poses[from + q]);
            }
            return most;
        }

        /** The best VANE to ask for times MOST_HOURS, and the HOUR. */
        int bestPlace() {
            int best = 0;
            int least = all + 1;
            for (int v = 0; v < hill.vanes; v++) {
                for (int h = 0; h < hill.hours; h++) {
                    int now = worst(v, h);
                    if (now < least) {
                        least = now;
                        best = v * MOST_HOURS + h;
                    }
                }
            }
            return best;
        }
    }

    /**
     * Whether a set of VANES would tell the WIND of an HOUR. Row t holds one group: all ways
     * until hour t by which the set was SEEN alike. At most two WINDS turn a VANE to the same
     * QUARTER, so a group of a set with a VANE in it at most doubles each hour.
     */
    private static final class Witnesses {
        private static final int LARGEST_GROUP = 1 << MOST_HOURS;

        final Hill hill;
        /** Of each way in a group the pose; above it (by 8 bits) the WIND of the asked hour, once it blew. */
        final int[][] groups = new int[MOST_HOURS + 1][LARGEST_GROUP];
        final int[] sizes = new int[MOST_HOURS + 1];
        int asked;
        int bits;

        Witnesses(Hill hill) {
            this.hill = hill;
        }

        boolean tell(int set, int hour) {
            asked = hour;
            bits = 0;
            for (int v = 0; v < hill.vanes; v++) {
                if ((set >> v & 1) == 1) {
                    bits |= 3 << 2 * v;
                }
            }
            groups[0][0] = hill.startPose();
            sizes[0] = 1;
            return isTold(0);
        }

        /** Whether all that is FITTING from the group of the hour on tells the asked WIND. */
        private boolean isTold(int hour) {
            if (sizes[hour] == 0 || hour > asked && isOneWind(hour)) {
                return true;
            }
            if (hour >= hill.hours) {
                return false;
            }
            int done = 0;
            for (int wind = 0; wind < QUARTERS; wind++) {
                if ((done >> wind & 1) == 0) {
                    done |= fillNext(hour, wind);
                    if (!isTold(hour + 1)) {
                        return false;
                    }
                }
            }
            return true;
        }

        private boolean isOneWind(int hour) {
            int[] group = groups[hour];
            for (int i = 1; i < sizes[hour]; i++) {
                if (group[i] >> 8 != group[0] >> 8) {
                    return false;
                }
            }
            return true;
        }

        /** Makes the next group: all WINDS by which the set turns as by this one; which, as bits. */
        private int fillNext(int hour, int like) {
            int pose = groups[hour][0] & 255;
            int goal = hill.turnedPose(pose, like) & bits;
            int alike = 0;
            sizes[hour + 1] = 0;
            for (int wind = 0; wind < QUARTERS; wind++) {
                if ((hill.turnedPose(pose, wind) & bits) == goal) {
                    alike |= 1 << wind;
                    if (hill.mayBlow(hour, wind)) {
                        blow(hour, wind);
                    }
                }
            }
            return alike;
        }

        /** Adds to the next group each way of this one, gone on by the WIND. */
        private void blow(int hour, int wind) {
            int[] group = groups[hour];
            int[] next = groups[hour + 1];
            for (int i = 0; i < sizes[hour]; i++) {
                int pose = hill.turnedPose(group[i] & 255, wind);
                int known = hour == asked ? wind : group[i] >> 8;
                int size = sizes[hour + 1];
                if (hill.agrees(hour, pose) && size < next.length) {
                    next[size] = known << 8 | pose;
                    sizes[hour + 1] = size + 1;
                }
            }
        }
    }
}
