import java.util.Arrays;

/**
 * A town in which whoever walks asleep has right of way. What each call must do is told, as numbered
 * promises, in the project's document; the words in capitals here are its terms.
 *
 * All rows are made with the object and used again, so that no call makes anything.
 */
public final class SleepRoads {
    public static final int UNKNOWN = -1, OUTSIDE = -2, STATE = -3, FULL = -4, NONE = -9;
    public static final long LOST = Long.MIN_VALUE;

    private static final int NO_FAULT = 0, NULL = 1, CAST = 2, INDEX = 3, SIZE = 4;
    private static final int SLEEPER = 0, MOONSTRUCK = 1, RESTLESS = 2;
    private static final int STAY = 0, ON = 1, BACK = 2;
    private static final int BYTES = 0, SHORTS = 1, INTS = 2;
    private static final int LEAST_PLACES = 3, MOST_PLACES = 9, MOST_SLEEPERS = 4, MOST_STRIDE = 3, MOST_GOODS = 9;
    private static final int LAST_MINUTE = 60, MOST_ACTS = 40, MOST_READINGS = 8, MOST_SHEETS = 4, MOST_CELLS = 60;
    private static final int EVERY_SLEEPER = (1 << MOST_SLEEPERS) - 1;
    private static final int NOWHERE = -1, WRONG_AT = -100, BITS = 32;

    private final Town town = new Town();
    private final Town tryout = new Town();
    private final Readings readings = new Readings();
    private final Sheet[] sheets = new Sheet[MOST_SHEETS];
    private int trace = 0;
    private int fault = NO_FAULT;

    public SleepRoads() {
        for (int k = 0; k < sheets.length; k++) {
            sheets[k] = new Sheet();
        }
    }

    // ---- 1 the town

    public int town(int sheet, int lane, int i, int n) {
        fault = NO_FAULT;
        Sheet text = sheetOrNull(sheet);
        if (text == null) {
            return UNKNOWN;
        }
        if (!isLane(lane)) {
            return OUTSIDE;
        }
        int found = text.faultAsRow(lane);
        if (found == NO_FAULT) {
            found = n < 0 ? SIZE : text.faultOfCells(i, n);
        }
        if (found != NO_FAULT) {
            return cameTo(found);
        }
        // Read apart first: a TEXT that isn't taken must leave the TOWN as it was.
        int firstFault = tryout.read(text, i, n);
        if (firstFault != NONE) {
            return WRONG_AT - firstFault;
        }
        town.read(text, i, n);
        readings.keepFirst(0);
        return town.sleeperCount();
    }

    public int ofSleeper(int a, int what) {
        Sleeper sleeper = town.sleeperOrNull(a);
        if (sleeper == null) {
            return UNKNOWN;
        }
        switch (what) {
            case 0: return sleeper.kind;
            case 1: return sleeper.start;
            case 2: return sleeper.stride;
            default: return OUTSIDE;
        }
    }

    public int goods(int p) {
        return town.hasPlace(p) ? town.goodsAt(p) : UNKNOWN;
    }

    public int lay(int p, int v) {
        if (!town.hasPlace(p)) {
            return UNKNOWN;
        }
        if (v < 0 || v > MOST_GOODS) {
            return OUTSIDE;
        }
        int before = town.goodsAt(p);
        town.setGoods(p, v);
        return before;
    }

    public int stride(int a, int v) {
        Sleeper sleeper = town.sleeperOrNull(a);
        if (sleeper == null) {
            return UNKNOWN;
        }
        if (v < 0 || v > MOST_STRIDE) {
            return OUTSIDE;
        }
        int before = sleeper.stride;
        sleeper.stride = v;
        return before;
    }

    // ---- 2 minutes

    public int where(int a, int minute) {
        if (!town.hasSleeper(a)) {
            return UNKNOWN;
        }
        return isMinute(minute) ? town.placeOf(a, minute) : OUTSIDE;
    }

    public int taken(int a, int minute) {
        if (!town.hasSleeper(a)) {
            return UNKNOWN;
        }
        return isMinute(minute) ? town.goodsTakenBy(a, minute) : OUTSIDE;
    }

    public int free(int minute) {
        if (!isMinute(minute)) {
            return OUTSIDE;
        }
        return town.isThere() ? town.freePlaces(minute, EVERY_SLEEPER) : STATE;
    }

    public int meet(int a, int b) {
        if (!town.hasSleeper(a) || !town.hasSleeper(b) || a == b) {
            return UNKNOWN;
        }
        for (int minute = 0; minute <= LAST_MINUTE; minute++) {
            if (town.placeOf(a, minute) == town.placeOf(b, minute)) {
                return minute;
            }
        }
        return NONE;
    }

    public int walk(int p, int sheet, int lane, int i, int n, int what) {
        fault = NO_FAULT;
        Sheet acts = sheetOrNull(sheet);
        if (!town.hasPlace(p) || acts == null) {
            return UNKNOWN;
        }
        if (!isLane(lane) || n < 0 || n > MOST_ACTS || what < 0 || what > 3) {
            return OUTSIDE;
        }
        if (!isIn(town.freePlaces(0, EVERY_SLEEPER), p)) {
            return STATE;
        }
        int found = acts.faultAsRow(lane);
        if (found == NO_FAULT) {
            found = acts.faultOfCells(i, n);
        }
        if (found != NO_FAULT) {
            return cameTo(found);
        }
        return areActs(acts, i, n) ? tellOfWalk(p, acts, i, n, what) : OUTSIDE;
    }

    private static boolean areActs(Sheet row, int i, int n) {
        for (int k = 0; k < n; k++) {
            int act = row.at(i + k);
            if (act != STAY && act != ON && act != BACK) {
                return false;
            }
        }
        return true;
    }

    private int tellOfWalk(int p, Sheet acts, int i, int n, int what) {
        int now = p;
        int been = bit(p);
        int stayed = 0;
        for (int k = 0; k < n; k++) {
            int act = acts.at(i + k);
            now = town.placeAfter(now, act);
            if (!isIn(town.freePlaces(k + 1, EVERY_SLEEPER), now)) {
                return what == 1 ? k : WRONG_AT - k;
            }
            been |= bit(now);
            stayed += act == STAY ? 1 : 0;
        }
        switch (what) {
            case 0: return now;
            case 1: return NONE;
            case 2: return been;
            default: return stayed;
        }
    }

    // ---- 3 the soonest, steering

    public int soonest(int from, int to, int k) {
        if (!town.hasPlace(from) || !town.hasPlace(to)) {
            return UNKNOWN;
        }
        if (k < -1 || k >= LAST_MINUTE) {
            return OUTSIDE;
        }
        if (!isIn(town.freePlaces(0, EVERY_SLEEPER), from)) {
            return STATE;
        }
        int minutes = town.fewestMinutes(from, to, EVERY_SLEEPER);
        if (k == -1) {
            return minutes;
        }
        return k < minutes ? town.actOfSoonest(from, to, minutes, k) : NONE;
    }

    public int steer(int a, int p, int minute) {
        Sleeper sleeper = town.sleeperOrNull(a);
        if (sleeper == null || !town.hasPlace(p)) {
            return UNKNOWN;
        }
        if (!isMinute(minute)) {
            return OUTSIDE;
        }
        int best = NONE;
        for (int v = 0; v <= MOST_STRIDE; v++) {
            boolean nearer = best == NONE || Math.abs(v - sleeper.stride) < Math.abs(best - sleeper.stride);
            if (nearer && town.placeIf(sleeper.kind, sleeper.start, v, minute) == p) {
                best = v;
            }
        }
        return best;
    }

    public int guard() {
        return town.isThere() ? town.placeWhereMostCome() : STATE;
    }

    // ---- 4 where they were

    public int reading(int a, int minute, int p) {
        if (!town.hasSleeper(a) || !town.hasPlace(p)) {
            return UNKNOWN;
        }
        if (!isMinute(minute)) {
            return OUTSIDE;
        }
        return readings.add(a, minute, p);
    }

    public int back(int k) {
        if (k < 0 || k > readings.howMany()) {
            return OUTSIDE;
        }
        readings.keepFirst(readings.howMany() - k);
        return readings.howMany();
    }

    public int strides(int a) {
        Sleeper sleeper = town.sleeperOrNull(a);
        if (sleeper == null) {
            return UNKNOWN;
        }
        int set = 0;
        for (int v = 0; v <= MOST_STRIDE; v++) {
            if (readings.areSo(town, a, sleeper.kind, sleeper.start, v)) {
                set |= bit(v);
            }
        }
        return set;
    }

    public int kinds(int a) {
        Sleeper sleeper = town.sleeperOrNull(a);
        if (sleeper == null) {
            return UNKNOWN;
        }
        int set = 0;
        for (int kind = SLEEPER; kind <= RESTLESS; kind++) {
            if (readings.areSo(town, a, kind, sleeper.start, sleeper.stride)) {
                set |= bit(kind);
            }
        }
        return set;
    }

    public int starts(int a) {
        Sleeper sleeper = town.sleeperOrNull(a);
        if (sleeper == null) {
            return UNKNOWN;
        }
        int set = 0;
        for (int p = 0; p < town.placeCount(); p++) {
            if (readings.areSo(town, a, sleeper.kind, p, sleeper.stride)) {
                set |= bit(p);
            }
        }
        return set;
    }

    public long odds(int from, int to, int n, int which) {
        if (!town.hasPlace(from) || !town.hasPlace(to)) {
            return LOST;
        }
        if (!isMinute(n) || which < 0 || which > 1) {
            return LOST;
        }
        int upper = 0;
        int lower = 1 << town.sleeperCount();
        for (int walkers = 0; walkers < lower; walkers++) {
            if (comesWithin(from, to, n, walkers)) {
                upper++;
            }
        }
        // The lower number is a power of 2, so nothing but 2 can divide both.
        while (lower > 1 && upper % 2 == 0) {
            upper /= 2;
            lower /= 2;
        }
        return which == 0 ? upper : lower;
    }

    private boolean comesWithin(int from, int to, int n, int walkers) {
        if (!isIn(town.freePlaces(0, walkers), from)) {
            return false;
        }
        int minutes = town.fewestMinutes(from, to, walkers);
        return minutes != NONE && minutes <= n;
    }

    // ---- 5 sheets, parts

    public int sheet(int k, int lane, int n) {
        fault = NO_FAULT;
        Sheet sheet = sheetOrNull(k);
        if (sheet == null) {
            return UNKNOWN;
        }
        if (!isLane(lane) || n > MOST_CELLS) {
            return OUTSIDE;
        }
        if (n < 0) {
            return cameTo(SIZE);
        }
        sheet.renew(lane, n);
        return 1;
    }

    public int lose(int k) {
        Sheet sheet = sheetOrNull(k);
        if (sheet == null) {
            return UNKNOWN;
        }
        int had = sheet.hasNothing() ? 0 : 1;
        sheet.drop();
        return had;
    }

    public int put(int k, int i, int v) {
        fault = NO_FAULT;
        Sheet sheet = sheetOrNull(k);
        if (sheet == null) {
            return UNKNOWN;
        }
        if (sheet.hasNothing()) {
            return cameTo(NULL);
        }
        if (!sheet.hasCell(i)) {
            return cameTo(INDEX);
        }
        sheet.set(i, v);
        return 1;
    }

    public long cell(int k, int i, int lane) {
        fault = NO_FAULT;
        Sheet sheet = sheetOrNull(k);
        if (sheet == null || !isLane(lane)) {
            return LOST;
        }
        fault = sheet.faultAsRow(lane);
        if (fault == NO_FAULT && !sheet.hasCell(i)) {
            fault = INDEX;
        }
        return fault == NO_FAULT ? sheet.at(i) : LOST;
    }

    public int copy(int k, int i, int other, int j, int n) {
        fault = NO_FAULT;
        Sheet from = sheetOrNull(k);
        Sheet to = sheetOrNull(other);
        if (from == null || to == null) {
            return UNKNOWN;
        }
        if (from.hasNothing() || to.hasNothing()) {
            return cameTo(NULL);
        }
        if (from.lane != to.lane) {
            return cameTo(CAST);
        }
        if (from.faultOfCells(i, n) != NO_FAULT || to.faultOfCells(j, n) != NO_FAULT) {
            return cameTo(INDEX);
        }
        System.arraycopy(from.cells, i, to.cells, j, n);
        return n;
    }

    public int tell(int a) {
        Sleeper sleeper = town.sleeperOrNull(a);
        if (sleeper == null) {
            return UNKNOWN;
        }
        switch (sleeper.kind) {
            case MOONSTRUCK: return moonstruckBody(sleeper);
            case RESTLESS: return restlessBody(sleeper);
            default: return sleeperBody(sleeper);
        }
    }

    public int waken(int a) {
        Sleeper sleeper = town.sleeperOrNull(a);
        if (sleeper == null) {
            return UNKNOWN;
        }
        return sleeper.kind == RESTLESS ? ownWakening() : lentWakening(a);
    }

    public int as(int a, int kind) {
        fault = NO_FAULT;
        Sleeper sleeper = town.sleeperOrNull(a);
        if (sleeper == null) {
            return UNKNOWN;
        }
        if (kind < SLEEPER || kind > RESTLESS) {
            return OUTSIDE;
        }
        // Each kind is also all kinds with lesser numbers.
        return sleeper.kind < kind ? cameTo(CAST) : 1;
    }

    public int trace() {
        return trace;
    }

    public int fault() {
        return fault;
    }

    public int many(int what) {
        switch (what) {
            case 0: return town.sleeperCount();
            case 1: return town.placeCount();
            case 2: return town.goodsOfAll();
            case 3: return readings.howMany();
            default: return OUTSIDE;
        }
    }

    private int sleeperBody(Sleeper sleeper) {
        leave(1);
        return sleeper.stride;
    }

    private int moonstruckBody(Sleeper sleeper) {
        leave(2);
        return sleeperBody(sleeper) + 100;
    }

    private int restlessBody(Sleeper sleeper) {
        leave(3);
        // The order counts: TRACE tells which body began first.
        int fromMoonstruck = moonstruckBody(sleeper);
        return fromMoonstruck + sleeperBody(sleeper);
    }

    private int lentWakening(int a) {
        leave(4);
        return a;
    }

    private int ownWakening() {
        leave(5);
        return 90;
    }

    private void leave(int body) {
        trace = 31 * trace + body;
    }

    private int cameTo(int which) {
        fault = which;
        return -10 - which;
    }

    private Sheet sheetOrNull(int k) {
        return k >= 0 && k < sheets.length ? sheets[k] : null;
    }

    private static boolean isLane(int lane) {
        return lane >= BYTES && lane <= INTS;
    }

    private static boolean isMinute(int minute) {
        return minute >= 0 && minute <= LAST_MINUTE;
    }

    private static boolean isIn(int set, int k) {
        return (set & bit(k)) != 0;
    }

    private static int bit(int k) {
        // A shift takes its number modulo 32: NOWHERE would otherwise be the bit of 31.
        return k >= 0 && k < BITS ? 1 << k : 0;
    }

    /** One of those who walk asleep; his number is where he stands in his TOWN. */
    private static final class Sleeper {
        int kind;
        int start;
        int stride;

        /** How far one of a kind has gone as a MINUTE begins. */
        static int gone(int kind, int stride, int minute) {
            switch (kind) {
                case MOONSTRUCK: return minute * (stride + 1);
                // As the MINUTE begins, (minute + 1) / 2 even ones lie behind it.
                case RESTLESS: return (minute + 1) / 2 * 2 * (stride + 1);
                default: return minute * stride;
            }
        }
    }

    /** PLACES, GOODS and SLEEPERS; without PLACES it is no TOWN. */
    private static final class Town {
        private static final int AT_Z = 0, AT_PLACES = 1, AT_BREAK = 2, AT_KIND = 3, AT_START = 4, AT_STRIDE = 5;
        private static final int AT_GOODS = 6, AT_END = 7;

        private final Sleeper[] sleepers = new Sleeper[MOST_SLEEPERS];
        private final int[] goods = new int[MOST_PLACES];
        private final int[] onTheWay = new int[LAST_MINUTE + 1];
        private int sleeperCount = 0;
        private int placeCount = 0;
        private int goodsRead = 0;
        private int part = AT_Z;

        Town() {
            for (int a = 0; a < sleepers.length; a++) {
                sleepers[a] = new Sleeper();
            }
        }

        /** Becomes the TOWN of a TEXT: NONE; or the FIRST FAULT, and then it is good for nothing. */
        int read(Sheet text, int i, int n) {
            sleeperCount = 0;
            placeCount = 0;
            goodsRead = 0;
            part = AT_Z;
            for (int k = 0; k < n; k++) {
                if (!goesOnWith(text.at(i + k))) {
                    return k;
                }
            }
            return part == AT_END ? NONE : n;
        }

        private boolean goesOnWith(int code) {
            switch (part) {
                case AT_Z: return readZ(code);
                case AT_PLACES: return readPlaces(code);
                case AT_BREAK: return readBreak(code);
                case AT_KIND: return readKind(code);
                case AT_START: return readStart(code);
                case AT_STRIDE: return readStride(code);
                case AT_GOODS: return readGoods(code);
                default: return false;
            }
        }

        private boolean readZ(int code) {
            if (code != 'z') {
                return false;
            }
            part = AT_PLACES;
            return true;
        }

        private boolean readPlaces(int code) {
            int told = digit(code);
            if (told < LEAST_PLACES) {
                return false;
            }
            placeCount = told;
            part = AT_BREAK;
            return true;
        }

        private boolean readBreak(int code) {
            if (code == ';' && sleeperCount < sleepers.length) {
                sleeperCount++;
                part = AT_KIND;
                return true;
            }
            if (code == '/' && sleeperCount > 0) {
                part = AT_GOODS;
                return true;
            }
            return false;
        }

        private boolean readKind(int code) {
            int told = code == 's' ? SLEEPER : code == 'm' ? MOONSTRUCK : code == 'r' ? RESTLESS : NONE;
            Sleeper latest = sleeperOrNull(sleeperCount - 1);
            if (told == NONE || latest == null) {
                return false;
            }
            latest.kind = told;
            part = AT_START;
            return true;
        }

        private boolean readStart(int code) {
            int told = digit(code);
            Sleeper latest = sleeperOrNull(sleeperCount - 1);
            if (!hasPlace(told) || latest == null) {
                return false;
            }
            latest.start = told;
            part = AT_STRIDE;
            return true;
        }

        private boolean readStride(int code) {
            int told = digit(code);
            Sleeper latest = sleeperOrNull(sleeperCount - 1);
            if (told < 0 || told > MOST_STRIDE || latest == null) {
                return false;
            }
            latest.stride = told;
            part = AT_BREAK;
            return true;
        }

        private boolean readGoods(int code) {
            int told = digit(code);
            if (told < 0) {
                return false;
            }
            setGoods(goodsRead, told);
            goodsRead++;
            part = goodsRead < placeCount ? AT_GOODS : AT_END;
            return true;
        }

        private static int digit(int code) {
            return code >= '0' && code <= '9' ? code - '0' : NONE;
        }

        boolean isThere() {
            return placeCount > 0;
        }

        int placeCount() {
            return placeCount;
        }

        int sleeperCount() {
            return sleeperCount;
        }

        boolean hasPlace(int p) {
            return p >= 0 && p < placeCount && p < goods.length;
        }

        boolean hasSleeper(int a) {
            return a >= 0 && a < sleeperCount && a < sleepers.length;
        }

        Sleeper sleeperOrNull(int a) {
            return hasSleeper(a) ? sleepers[a] : null;
        }

        int goodsAt(int p) {
            return hasPlace(p) ? goods[p] : 0;
        }

        void setGoods(int p, int v) {
            if (hasPlace(p)) {
                goods[p] = v;
            }
        }

        int goodsOfAll() {
            int sum = 0;
            for (int p = 0; p < placeCount; p++) {
                sum += goodsAt(p);
            }
            return sum;
        }

        /** Where one would be, were he as told. */
        int placeIf(int kind, int start, int stride, int minute) {
            return placeCount > 0 ? (start + Sleeper.gone(kind, stride, minute)) % placeCount : NOWHERE;
        }

        int placeOf(int a, int minute) {
            Sleeper sleeper = sleeperOrNull(a);
            return sleeper == null ? NOWHERE : placeIf(sleeper.kind, sleeper.start, sleeper.stride, minute);
        }

        int placeAfter(int p, int act) {
            if (placeCount <= 0) {
                return NOWHERE;
            }
            switch (act) {
                case ON: return (p + 1) % placeCount;
                case BACK: return (p + placeCount - 1) % placeCount;
                default: return p;
            }
        }

        int goodsTakenBy(int a, int minute) {
            int gone = 0;
            int sum = 0;
            for (int m = 0; m <= minute && m <= LAST_MINUTE; m++) {
                // From the least on, so that of several in one PLACE he comes first.
                for (int b = 0; b < sleeperCount; b++) {
                    int p = placeOf(b, m);
                    if (b == a && !isIn(gone, p)) {
                        sum += goodsAt(p);
                    }
                    gone |= bit(p);
                }
            }
            return sum;
        }

        int everyPlace() {
            return bit(placeCount) - 1;
        }

        /** The PLACES where none of these SLEEPERS is. */
        int freePlaces(int minute, int walkers) {
            int set = everyPlace();
            for (int a = 0; a < sleeperCount; a++) {
                if (isIn(walkers, a)) {
                    set &= ~bit(placeOf(a, minute));
                }
            }
            return set;
        }

        /** The PLACES that one ACT leads to from these, or from which one leads to them. */
        private int withNeighbours(int set) {
            int last = placeCount - 1;
            int on = set << 1 | set >> last;
            int back = set >> 1 | set << last;
            return (set | on | back) & everyPlace();
        }

        int fewestMinutes(int from, int to, int walkers) {
            int reached = bit(from);
            for (int minute = 0; minute <= LAST_MINUTE; minute++) {
                if (isIn(reached, to)) {
                    return minute;
                }
                reached = withNeighbours(reached) & freePlaces(minute + 1, walkers);
            }
            return NONE;
        }

        /** ACT k, one of the fewest MINUTES, of the first of the WALKS that take so many. */
        int actOfSoonest(int from, int to, int minutes, int k) {
            findTheWay(to, minutes);
            int now = from;
            int act = NONE;
            for (int m = 1; m <= k + 1 && m < onTheWay.length; m++) {
                act = firstActInto(onTheWay[m], now);
                now = placeAfter(now, act);
            }
            return act;
        }

        /** Notes for each MINUTE in which PLACES one may be so as to come there when the last one begins. */
        private void findTheWay(int to, int minutes) {
            int set = bit(to);
            for (int m = Math.min(minutes, onTheWay.length - 1); m >= 0; m--) {
                onTheWay[m] = set & freePlaces(m, EVERY_SLEEPER);
                set = withNeighbours(onTheWay[m]);
            }
        }

        private int firstActInto(int set, int now) {
            for (int act = STAY; act <= BACK; act++) {
                if (isIn(set, placeAfter(now, act))) {
                    return act;
                }
            }
            return NONE;
        }

        int placeWhereMostCome() {
            int best = 0;
            int most = 0;
            for (int p = 0; p < placeCount; p++) {
                int comers = 0;
                for (int a = 0; a < sleeperCount; a++) {
                    comers += comesTo(a, p) ? 1 : 0;
                }
                if (comers > most) {
                    most = comers;
                    best = p;
                }
            }
            return best;
        }

        private boolean comesTo(int a, int p) {
            for (int minute = 0; minute <= LAST_MINUTE; minute++) {
                if (placeOf(a, minute) == p) {
                    return true;
                }
            }
            return false;
        }
    }

    /** Where SLEEPERS were seen. */
    private static final class Readings {
        private final int[] sleeper = new int[MOST_READINGS];
        private final int[] minute = new int[MOST_READINGS];
        private final int[] place = new int[MOST_READINGS];
        private int count = 0;

        int howMany() {
            return count;
        }

        void keepFirst(int n) {
            count = n;
        }

        /** Its number; FULL where there is no room. */
        int add(int a, int inMinute, int p) {
            if (count < 0 || count >= MOST_READINGS) {
                return FULL;
            }
            sleeper[count] = a;
            minute[count] = inMinute;
            place[count] = p;
            count++;
            return count - 1;
        }

        /** Whether all of them are so, were one SLEEPER as told and all others as they are. */
        boolean areSo(Town town, int a, int kind, int start, int stride) {
            for (int r = 0; r < count && r < MOST_READINGS; r++) {
                int there = sleeper[r] == a
                        ? town.placeIf(kind, start, stride, minute[r])
                        : town.placeOf(sleeper[r], minute[r]);
                if (there != place[r]) {
                    return false;
                }
            }
            return true;
        }
    }

    /** Nothing, or a row of a LANE; its cells hold what is already cut to the LANE. */
    private static final class Sheet {
        private static final int NO_LANE = -1;

        private final int[] cells = new int[MOST_CELLS];
        private int lane = NO_LANE;
        private int length = 0;

        boolean hasNothing() {
            return lane == NO_LANE;
        }

        void drop() {
            lane = NO_LANE;
            length = 0;
        }

        void renew(int newLane, int newLength) {
            Arrays.fill(cells, 0);
            lane = newLane;
            length = newLength;
        }

        boolean hasCell(int i) {
            return i >= 0 && i < length && i < cells.length;
        }

        int at(int i) {
            return hasCell(i) ? cells[i] : 0;
        }

        void set(int i, int v) {
            if (hasCell(i)) {
                cells[i] = lane == BYTES ? (byte) v : lane == SHORTS ? (short) v : v;
            }
        }

        int faultAsRow(int asLane) {
            if (hasNothing()) {
                return NULL;
            }
            return lane == asLane ? NO_FAULT : CAST;
        }

        int faultOfCells(int i, int n) {
            // i + n might wrap, so n is held against what is left behind i.
            return i < 0 || n < 0 || i > length || n > length - i ? INDEX : NO_FAULT;
        }
    }
}
