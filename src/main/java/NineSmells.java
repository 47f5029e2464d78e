import java.util.Arrays;

/** A people of night who sign with smells; ../shared/DOC.md tells what each call does. */
public final class NineSmells {
    public static final int UNKNOWN = -1, OUTSIDE = -2, STATE = -3, FULL = -4, NONE = -9;
    public static final long LOST = Long.MIN_VALUE;

    private static final int NULL_FAULT = 1, CAST_FAULT = 2, INDEX_FAULT = 3, SIZE_FAULT = 4;
    private static final int FAULT_BASE = -10, TEXT_BASE = -100;

    private static final int PERSON = 0, FIELD = 1, SEAL = 2, KINDS = 3;
    private static final int BYTES = 0, SHORTS = 1, LANES = 3;

    private static final int SMELLS = 9, SHEETS = 4, MOST_CELLS = 90;
    private static final int LEAST_SIGNS = 2, MOST_SIGNS = 8, MOST_PAPERS = 8;
    private static final int SIGN_CODES = 1 + SMELLS, SIGN_STEP = SIGN_CODES + 1;

    private static final int FIRST_HALF = 5, MOST_HALF = 9;
    private static final int FIRST_BOUND = 40, MOST_BOUND = 999;
    private static final int LAST_YEAR = 99, MOST_FADING = 999, MOST_COLD = 9, MOST_FLOOD = 9;
    private static final int MOST_STRENGTH = 9, MOST_STOPPERS = 10, MOST_NEAR = 10;
    private static final int DOOR_HOURS = 10, MOST_WIND = 3, MOST_LEFT = 99;
    private static final int NOT_SOUGHT = -1, FARTHER_THAN_ALL = 0x7fffffff;
    private static final int PAPER_TIMES = 4, ALIKE_TIMES = 8, DOOR_TIMES = 8;

    private static final int PERSON_BODY = 1, FIELD_BODY = 2, SEAL_BODY = 3, LENT_BODY = 4, OWN_BODY = 5;
    private static final int FIELD_TELLS_MORE = 100, SEAL_STOPS = 90;

    private final Sheet[] sheets = new Sheet[SHEETS];
    private final Sign[] signs = new Sign[MOST_SIGNS];
    private final Paper[] papers = new Paper[MOST_PAPERS];
    private final int[] halves = new int[SMELLS];
    private int signCount, paperCount, thisYear, bound, trace, latestFault;

    // Rows that calls work in, kept so that no call makes any.
    private final int[] smelt = new int[SMELLS];
    private final int[] strengths = new int[SMELLS];
    private final int[] hours = new int[MOST_SIGNS];
    private final int[] newSmell = new int[5];

    /** A row of numbers, or nothing. */
    private static final class Sheet {
        private boolean has;
        private int lane, count;
        private final int[] cells = new int[MOST_CELLS];

        private void renew(int newLane, int newCount) {
            has = true;
            lane = newLane;
            count = newCount;
            Arrays.fill(cells, 0);
        }

        private int cut(int v) {
            if (lane == BYTES) {
                return (byte) v;
            }
            return lane == SHORTS ? (short) v : v;
        }

        /** Whether n cells (0 or more) from i on are not all there; n is long, so that twice an int fits. */
        private boolean lacks(int i, long n) {
            return i < 0 || i + n > count;
        }
    }

    /** One who signs. */
    private static final class Sign {
        private int kind, total;
        private final int[] strength = new int[SMELLS];
    }

    /** What two have signed. */
    private static final class Paper {
        private int first, second, year, cold, washed, drowned;
    }

    public NineSmells() {
        for (int k = 0; k < SHEETS; k++) {
            sheets[k] = new Sheet();
        }
        for (int x = 0; x < MOST_SIGNS; x++) {
            signs[x] = new Sign();
        }
        for (int p = 0; p < MOST_PAPERS; p++) {
            papers[p] = new Paper();
        }
    }

    // ---- 1 the register

    public int register(int sheet, int lane, int i, int n) {
        int no = spanRefusal(sheet, lane, i, n);
        if (no != 0) {
            return no;
        }
        int textFault = textFault(sheets[sheet], i, n);
        if (textFault >= 0) {
            return TEXT_BASE - textFault;
        }
        takeText(sheets[sheet], i, n);
        startAnew();
        return signCount;
    }

    public int ofSign(int x, int what) {
        if (!isSign(x)) {
            return UNKNOWN;
        }
        if (what < -1 || what >= SMELLS) {
            return OUTSIDE;
        }
        return what < 0 ? signs[x].kind : signs[x].strength[what];
    }

    public int half(int smell, int v) {
        if (!isSmell(smell)) {
            return UNKNOWN;
        }
        if (v < 1 || v > MOST_HALF) {
            return OUTSIDE;
        }
        if (signCount == 0) {
            return STATE;
        }
        int was = halves[smell];
        halves[smell] = v;
        return was;
    }

    public int bound(int v) {
        if (v < 0 || v > MOST_BOUND) {
            return OUTSIDE;
        }
        if (signCount == 0) {
            return STATE;
        }
        int was = bound;
        bound = v;
        return was;
    }

    public int year(int v) {
        if (v < thisYear || v > LAST_YEAR) {
            return OUTSIDE;
        }
        if (signCount == 0) {
            return STATE;
        }
        int was = thisYear;
        thisYear = v;
        return was;
    }

    public int faded(int x, int smell, int v, int years) {
        if (!isSign(x) || !isSmell(smell)) {
            return UNKNOWN;
        }
        if (v < 0 || v > MOST_FADING || years < 0 || years > LAST_YEAR) {
            return OUTSIDE;
        }
        return fade(signs[x], smell, v, years);
    }

    /** The place of the first code with which no TEXT goes on, or -1. */
    private static int textFault(Sheet sheet, int from, int n) {
        for (int place = 0; place < n; place++) {
            if (!goesOn(sheet.cells[from + place], place)) {
                return place;
            }
        }
        boolean whole = n % SIGN_STEP == SIGN_CODES && n / SIGN_STEP + 1 >= LEAST_SIGNS;
        return whole ? -1 : n;
    }

    private static boolean goesOn(int code, int place) {
        int column = place % SIGN_STEP;
        if (column == 0) {
            return kindOf(code) >= 0;
        }
        if (column == SIGN_CODES) {
            return code == ';' && place / SIGN_STEP + 1 < MOST_SIGNS;
        }
        return code >= '0' && code <= '9';
    }

    /** The kind of a letter, or -1. */
    private static int kindOf(int code) {
        switch (code) {
            case 'p':
                return PERSON;
            case 'f':
                return FIELD;
            case 's':
                return SEAL;
            default:
                return -1;
        }
    }

    /** Makes the SIGNS of a TEXT that has no fault. */
    private void takeText(Sheet sheet, int from, int n) {
        signCount = n / SIGN_STEP + 1;
        for (int x = 0; x < signCount; x++) {
            int letter = from + x * SIGN_STEP;
            signs[x].kind = kindOf(sheet.cells[letter]);
            signs[x].total = 0;
            for (int smell = 0; smell < SMELLS; smell++) {
                int strength = sheet.cells[letter + 1 + smell] - '0';
                signs[x].strength[smell] = strength;
                signs[x].total += strength;
            }
        }
    }

    private void startAnew() {
        paperCount = 0;
        thisYear = 0;
        bound = FIRST_BOUND;
        Arrays.fill(halves, FIRST_HALF);
        newSmell[0] = NOT_SOUGHT;
    }

    private int fade(Sign sign, int smell, int v, int years) {
        int half = halves[smell];
        // No HALF is below 1 where there are SIGNS; a divisor is looked at all the same.
        if (sign.kind == SEAL || half < 1) {
            return v;
        }
        int over = years / half;
        int times = sign.kind == FIELD ? over / 2 : over;
        // A shift by 32 would be one by 0; no number here has as many as 31 bits.
        return v >> Math.min(times, 31);
    }

    private boolean isSign(int x) {
        return x >= 0 && x < signCount;
    }

    private boolean areTwoSigns(int x, int y) {
        return isSign(x) && isSign(y) && x != y;
    }

    private static boolean isSmell(int smell) {
        return smell >= 0 && smell < SMELLS;
    }

    // ---- 2 papers

    public int paper(int x, int y, int cold) {
        if (!areTwoSigns(x, y)) {
            return UNKNOWN;
        }
        if (cold < 0 || cold > MOST_COLD) {
            return OUTSIDE;
        }
        if (paperCount >= MOST_PAPERS) {
            return FULL;
        }
        Paper paper = papers[paperCount];
        paper.first = x;
        paper.second = y;
        paper.year = thisYear;
        paper.cold = cold;
        paper.washed = 0;
        paper.drowned = 0;
        paperCount++;
        return paperCount - 1;
    }

    public int ofPaper(int p, int what) {
        if (!isPaper(p)) {
            return UNKNOWN;
        }
        Paper paper = papers[p];
        switch (what) {
            case 0:
                return paper.first;
            case 1:
                return paper.second;
            case 2:
                return paper.year;
            case 3:
                return paper.cold;
            case 4:
                return paper.washed;
            case 5:
                return paper.drowned;
            default:
                return OUTSIDE;
        }
    }

    public int smells(int p, int smell, int year) {
        if (!isPaper(p) || !isSmell(smell)) {
            return UNKNOWN;
        }
        if (year < papers[p].year || year > LAST_YEAR) {
            return OUTSIDE;
        }
        return smellOf(papers[p], smell, year);
    }

    public int wash(int p, int smell) {
        if (!isPaper(p) || !isSmell(smell)) {
            return UNKNOWN;
        }
        Paper paper = papers[p];
        if (isWashed(paper, smell)) {
            return 0;
        }
        paper.washed |= 1 << smell;
        return 1;
    }

    public int flood(int v) {
        if (v < 1 || v > MOST_FLOOD) {
            return OUTSIDE;
        }
        for (int p = 0; p < paperCount; p++) {
            papers[p].drowned += v;
        }
        return paperCount;
    }

    public int far(int p, int x, int y) {
        if (!isPaper(p) || !areTwoSigns(x, y)) {
            return UNKNOWN;
        }
        smellPaper(papers[p], thisYear);
        return smeltFrom(x, y);
    }

    public int fits(int p, int what) {
        if (!isPaper(p)) {
            return UNKNOWN;
        }
        if (what < 0 || what > 2) {
            return OUTSIDE;
        }
        smellPaper(papers[p], thisYear);
        int fitting = 0;
        int nearest = 0;
        int least = FARTHER_THAN_ALL;
        for (int x = 0; x < signCount; x++) {
            for (int y = x + 1; y < signCount; y++) {
                int distance = smeltFrom(x, y);
                fitting += distance <= bound ? 1 : 0;
                if (distance < least) {
                    least = distance;
                    nearest = pairNumber(x, y);
                }
            }
        }
        if (what == 0) {
            return fitting;
        }
        return what == 1 ? nearest : least;
    }

    public int proved() {
        int set = 0;
        for (int p = 0; p < paperCount; p++) {
            if (isProved(papers[p], thisYear)) {
                set |= 1 << p;
            }
        }
        return set;
    }

    public int again(int p) {
        if (!isPaper(p)) {
            return UNKNOWN;
        }
        for (int year = thisYear; year <= LAST_YEAR; year++) {
            if (!isProved(papers[p], year)) {
                return year;
            }
        }
        return NONE;
    }

    private int smellOf(Paper paper, int smell, int year) {
        if (isWashed(paper, smell)) {
            return paper.drowned;
        }
        int years = year - paper.year;
        int mixed = fadedInk(signs[paper.first], smell, years) + fadedInk(signs[paper.second], smell, years);
        return Math.max(0, mixed - paper.cold) + paper.drowned;
    }

    private int fadedInk(Sign sign, int smell, int years) {
        return fade(sign, smell, PAPER_TIMES * sign.strength[smell], years);
    }

    private static boolean isWashed(Paper paper, int smell) {
        return (paper.washed >> smell & 1) != 0;
    }

    /** Puts into smelt what a PAPER smells of in a YEAR. */
    private void smellPaper(Paper paper, int year) {
        for (int smell = 0; smell < SMELLS; smell++) {
            smelt[smell] = smellOf(paper, smell, year);
        }
    }

    /** How FAR what is in smelt is from two SIGNS. */
    private int smeltFrom(int x, int y) {
        int sum = 0;
        for (int smell = 0; smell < SMELLS; smell++) {
            int both = signs[x].strength[smell] + signs[y].strength[smell];
            sum += Math.abs(smelt[smell] - PAPER_TIMES * both);
        }
        return sum;
    }

    private boolean isProved(Paper paper, int year) {
        smellPaper(paper, year);
        int own = smeltFrom(paper.first, paper.second);
        if (own > bound) {
            return false;
        }
        int lesser = Math.min(paper.first, paper.second);
        int greater = Math.max(paper.first, paper.second);
        for (int x = 0; x < signCount; x++) {
            for (int y = x + 1; y < signCount; y++) {
                boolean isOwn = x == lesser && y == greater;
                if (!isOwn && smeltFrom(x, y) <= own) {
                    return false;
                }
            }
        }
        return true;
    }

    private static int pairNumber(int x, int y) {
        return 10 * x + y;
    }

    private boolean isPaper(int p) {
        return p >= 0 && p < paperCount;
    }

    // ---- 3 alike ones, forgers

    public int apart(int x, int y) {
        if (!isSign(x) || !isSign(y)) {
            return UNKNOWN;
        }
        return apartOf(signs[x].strength, signs[y].strength);
    }

    public int twins(int k) {
        if (k < -1) {
            return UNKNOWN;
        }
        int found = 0;
        for (int x = 0; x < signCount; x++) {
            for (int y = x + 1; y < signCount; y++) {
                if (areAlike(signs[x].strength, signs[y].strength)) {
                    if (found == k) {
                        return pairNumber(x, y);
                    }
                    found++;
                }
            }
        }
        return k == -1 ? found : NONE;
    }

    public int forged(int x, int y, int sheet, int lane, int i, int n) {
        if (!areTwoSigns(x, y)) {
            return refused(UNKNOWN);
        }
        int no = spanRefusal(sheet, lane, i, 2L * n);
        if (no != 0) {
            return no;
        }
        if (n > MOST_STOPPERS || !areStoppers(sheets[sheet], i, n)) {
            return OUTSIDE;
        }
        int best = NONE;
        int fewest = n + 1;
        for (int set = 0; set < 1 << n; set++) {
            int many = Integer.bitCount(set);
            if (many < fewest && isTakenFor(x, y, sheets[sheet], i, set)) {
                best = set;
                fewest = many;
            }
        }
        return best;
    }

    public int near(int x, int y, int h, int smell) {
        if (!isSign(x) || !isSign(y) || !isSmell(smell)) {
            return UNKNOWN;
        }
        if (h < 0 || h > MOST_NEAR) {
            return OUTSIDE;
        }
        return strengthNear(signs[x], signs[y], h, smell);
    }

    public int steals(int x, int y) {
        if (!areTwoSigns(x, y)) {
            return UNKNOWN;
        }
        for (int h = 0; h <= MOST_NEAR; h++) {
            for (int smell = 0; smell < SMELLS; smell++) {
                strengths[smell] = strengthNear(signs[x], signs[y], h, smell);
            }
            if (areAlike(strengths, signs[y].strength)) {
                return h;
            }
        }
        return NONE;
    }

    public int fresh(int what) {
        if (what < 0 || what >= newSmell.length) {
            return OUTSIDE;
        }
        if (signCount == 0) {
            return STATE;
        }
        // It hangs on the SIGNS alone, so one search for a REGISTER is enough.
        if (newSmell[0] == NOT_SOUGHT) {
            seekNewSmell();
        }
        return newSmell[what];
    }

    private static int apartOf(int[] one, int[] other) {
        int sum = 0;
        for (int smell = 0; smell < SMELLS; smell++) {
            sum += Math.abs(one[smell] - other[smell]);
        }
        return sum;
    }

    private boolean areAlike(int[] one, int[] other) {
        return ALIKE_TIMES * apartOf(one, other) <= bound;
    }

    private static boolean areStoppers(Sheet sheet, int from, int n) {
        for (int k = 0; k < n; k++) {
            int more = sheet.cells[from + 2 * k + 1];
            if (!isSmell(sheet.cells[from + 2 * k]) || more < 1 || more > MOST_STRENGTH) {
                return false;
            }
        }
        return true;
    }

    /** Whether x, with a set of the STOPPERS in cells from a place on, is taken for y. */
    private boolean isTakenFor(int x, int y, Sheet sheet, int from, int set) {
        for (int smell = 0; smell < SMELLS; smell++) {
            strengths[smell] = signs[x].strength[smell];
        }
        for (int k = 0; k < MOST_STOPPERS; k++) {
            if ((set >> k & 1) != 0) {
                strengths[sheet.cells[from + 2 * k]] += sheet.cells[from + 2 * k + 1];
            }
        }
        return areAlike(strengths, signs[y].strength);
    }

    private static int strengthNear(Sign sign, Sign other, int h, int smell) {
        int more = other.strength[smell] - sign.strength[smell];
        return sign.strength[smell] + more * h / MOST_NEAR;
    }

    private void seekNewSmell() {
        for (int first = 0; first < SMELLS; first++) {
            for (int second = first + 1; second < SMELLS; second++) {
                tryStrengths(first, second);
            }
        }
    }

    /** Keeps in newSmell the best so far of all strengths of two SMELLS. */
    private void tryStrengths(int first, int second) {
        for (int u = 0; u <= MOST_STRENGTH; u++) {
            for (int v = 0; v <= MOST_STRENGTH; v++) {
                int least = leastApart(first, second, u, v);
                if (least > newSmell[0]) {
                    newSmell[0] = least;
                    newSmell[1] = first;
                    newSmell[2] = second;
                    newSmell[3] = u;
                    newSmell[4] = v;
                }
            }
        }
    }

    /** How far a smell of two SMELLS, strong by u and v, is from the SIGN that is the least APART from it. */
    private int leastApart(int first, int second, int u, int v) {
        int least = FARTHER_THAN_ALL;
        for (int x = 0; x < signCount; x++) {
            int[] strength = signs[x].strength;
            int others = signs[x].total - strength[first] - strength[second];
            least = Math.min(least, others + Math.abs(u - strength[first]) + Math.abs(v - strength[second]));
        }
        return least;
    }

    // ---- 4 a door

    public long odds(int x, int wind, int sheet, int lane, int i, int which) {
        latestFault = 0;
        if (!isSign(x) || spanRefusal(sheet, lane, i, SMELLS) != 0) {
            return LOST;
        }
        if (!isDoor(sheets[sheet], i, wind) || which < 0 || which > 1) {
            return LOST;
        }
        int all = countHours(wind, sheets[sheet], i);
        if (all == 0) {
            return LOST;
        }
        return ofShare(hours[x], all, which);
    }

    public int who(int wind, int sheet, int lane, int i) {
        int no = spanRefusal(sheet, lane, i, SMELLS);
        if (no != 0) {
            return no;
        }
        if (!isDoor(sheets[sheet], i, wind)) {
            return OUTSIDE;
        }
        countHours(wind, sheets[sheet], i);
        int best = NONE;
        int most = 0;
        for (int x = 0; x < signCount; x++) {
            if (hours[x] > most) {
                most = hours[x];
                best = x;
            }
        }
        return best;
    }

    private static boolean isDoor(Sheet sheet, int from, int wind) {
        for (int smell = 0; smell < SMELLS; smell++) {
            int left = sheet.cells[from + smell];
            if (left < 0 || left > MOST_LEFT) {
                return false;
            }
        }
        return wind >= 0 && wind <= MOST_WIND;
    }

    /** Puts into hours how many of each SIGN MAY be; answers how many of all. */
    private int countHours(int wind, Sheet sheet, int from) {
        int all = 0;
        for (int x = 0; x < signCount; x++) {
            hours[x] = 0;
            for (int h = 0; h < DOOR_HOURS; h++) {
                if (leftFrom(signs[x], h + h * wind, sheet, from) <= bound) {
                    hours[x]++;
                }
            }
            all += hours[x];
        }
        return all;
    }

    private int leftFrom(Sign sign, int years, Sheet sheet, int from) {
        int sum = 0;
        for (int smell = 0; smell < SMELLS; smell++) {
            int left = fade(sign, smell, DOOR_TIMES * sign.strength[smell], years);
            sum += Math.abs(left - sheet.cells[from + smell]);
        }
        return sum;
    }

    /** The upper (which 0) or lower number of a share, in least terms. */
    private static int ofShare(int upper, int lower, int which) {
        int number = which == 0 ? upper : lower;
        for (int d = lower; d > 1; d--) {
            if (upper % d == 0 && lower % d == 0) {
                return number / d;
            }
        }
        return number;
    }

    // ---- 5 sheets, parts

    public int sheet(int k, int lane, int n) {
        if (!isSheet(k)) {
            return refused(UNKNOWN);
        }
        if (!isLane(lane) || n > MOST_CELLS) {
            return refused(OUTSIDE);
        }
        if (n < 0) {
            return faulted(SIZE_FAULT);
        }
        latestFault = 0;
        sheets[k].renew(lane, n);
        return 1;
    }

    public int lose(int k) {
        if (!isSheet(k)) {
            return UNKNOWN;
        }
        int had = sheets[k].has ? 1 : 0;
        sheets[k].has = false;
        return had;
    }

    public int put(int k, int i, int v) {
        if (!isSheet(k)) {
            return refused(UNKNOWN);
        }
        Sheet sheet = sheets[k];
        if (!sheet.has) {
            return faulted(NULL_FAULT);
        }
        if (sheet.lacks(i, 1)) {
            return faulted(INDEX_FAULT);
        }
        latestFault = 0;
        sheet.cells[i] = sheet.cut(v);
        return 1;
    }

    public long cell(int k, int i, int lane) {
        if (spanRefusal(k, lane, i, 1) != 0) {
            return LOST;
        }
        return sheets[k].cells[i];
    }

    public int copy(int k, int i, int other, int j, int n) {
        if (!isSheet(k) || !isSheet(other)) {
            return refused(UNKNOWN);
        }
        Sheet from = sheets[k];
        Sheet to = sheets[other];
        if (!from.has || !to.has) {
            return faulted(NULL_FAULT);
        }
        if (from.lane != to.lane) {
            return faulted(CAST_FAULT);
        }
        if (n < 0 || from.lacks(i, n) || to.lacks(j, n)) {
            return faulted(INDEX_FAULT);
        }
        latestFault = 0;
        System.arraycopy(from.cells, i, to.cells, j, n);
        return n;
    }

    public int tell(int x) {
        if (!isSign(x)) {
            return UNKNOWN;
        }
        switch (signs[x].kind) {
            case SEAL:
                return sealTells(signs[x]);
            case FIELD:
                return fieldTells(signs[x]);
            default:
                return personTells(signs[x]);
        }
    }

    public int stop(int x) {
        if (!isSign(x)) {
            return UNKNOWN;
        }
        if (signs[x].kind == SEAL) {
            leaveTrace(OWN_BODY);
            return SEAL_STOPS;
        }
        leaveTrace(LENT_BODY);
        return x;
    }

    public int as(int x, int kind) {
        if (!isSign(x)) {
            return refused(UNKNOWN);
        }
        if (kind < 0 || kind >= KINDS) {
            return refused(OUTSIDE);
        }
        // Each kind is one of the kinds of lesser numbers, too.
        if (signs[x].kind < kind) {
            return faulted(CAST_FAULT);
        }
        latestFault = 0;
        return 1;
    }

    public int trace() {
        return trace;
    }

    public int fault() {
        return latestFault;
    }

    public int many(int what) {
        switch (what) {
            case 0:
                return signCount;
            case 1:
                return paperCount;
            case 2:
                return thisYear;
            case 3:
                return bound;
            default:
                return OUTSIDE;
        }
    }

    private int personTells(Sign sign) {
        leaveTrace(PERSON_BODY);
        return sign.strength[0];
    }

    private int fieldTells(Sign sign) {
        leaveTrace(FIELD_BODY);
        return personTells(sign) + FIELD_TELLS_MORE;
    }

    private int sealTells(Sign sign) {
        leaveTrace(SEAL_BODY);
        int asField = fieldTells(sign);
        return asField + personTells(sign);
    }

    private void leaveTrace(int body) {
        trace = 31 * trace + body;
    }

    /** What a call answers that can't take n cells from i on as a row of a LANE; 0, if it can. */
    private int spanRefusal(int k, int lane, int i, long n) {
        if (!isSheet(k)) {
            return refused(UNKNOWN);
        }
        if (!isLane(lane)) {
            return refused(OUTSIDE);
        }
        Sheet sheet = sheets[k];
        if (sheet.has && sheet.lane != lane) {
            return faulted(CAST_FAULT);
        }
        if (!sheet.has) {
            return faulted(NULL_FAULT);
        }
        if (n < 0) {
            return faulted(SIZE_FAULT);
        }
        if (sheet.lacks(i, n)) {
            return faulted(INDEX_FAULT);
        }
        latestFault = 0;
        return 0;
    }

    private int refused(int answer) {
        latestFault = 0;
        return answer;
    }

    private int faulted(int which) {
        latestFault = which;
        return FAULT_BASE - which;
    }

    private static boolean isSheet(int k) {
        return k >= 0 && k < SHEETS;
    }

    private static boolean isLane(int lane) {
        return lane >= 0 && lane < LANES;
    }
}
