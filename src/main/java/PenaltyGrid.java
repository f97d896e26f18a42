import java.util.Arrays;

/** A grid for sentences. What each call promises is told in ../shared/DOC.md. */
public final class PenaltyGrid {
    public static final int BAD = -1, FULL = -2, NONE = -3, STATE = -4;

    private static final int NO_CELL = -9;
    private static final int NOTHING = -11;
    private static final int OUTSIDE = -12;
    private static final int OTHER_SORT = -13;
    private static final int BELOW_ZERO = -14;
    private static final int PARTED_BY_ZERO = -15;
    private static final int FAULT = -100;

    private static final int LAST_DAY = 9999;
    private static final int MOST_DAYS_AT_ONCE = 2000;
    private static final int MONTH = 30;
    private static final int YEAR = 360;
    private static final int OLDEST = 90;
    private static final int GROWN_UP = 18;
    private static final int KINDS = 6;
    private static final int ALL_FACTS = 15;
    private static final int COURTS = 5;
    private static final int MOST_MONTHS = 240;
    private static final int REASONS = 4;
    private static final int MOST_GOOD = 999;
    private static final int MOST_GOOD_AT_ONCE = 99;
    private static final int GRAVES = 5;
    private static final int OFTENS = 4;

    private static final int MOST_PERSONS = 8;
    private static final int MOST_DEEDS = 16;
    private static final int MOST_FINDINGS = 24;
    private static final int MOST_LAWS = 6;
    private static final int MOST_TERMS = 16;
    private static final int MOST_HELD = 12;
    private static final int MOST_TAPE = 250;
    private static final int MOST_LINES = 12;
    private static final int MOST_OPEN = 4;
    private static final int MOST_TRACE = 30;

    private static final int SHEETS = 4;
    private static final int MOST_ITEMS = 40;
    private static final int MOST_COMING = 9;
    private static final int MISSING = -1;
    private static final int BYTES = 0;
    private static final int SHORTS = 1;
    private static final int BOOLEANS = 3;

    private static final int SHELVES = 4;
    private static final int HOLDS_DEED = 0;
    private static final int HOLDS_FINDING = 1;
    private static final int HOLDS_TERM = 2;
    private static final int HOLDS_LAW = 3;
    private static final int HOLDS_ROW = 4;
    private static final int HOLDS_NOTHING = 5;

    /** Where a view of a deed, which a law's conditions look at, has what. The flags are as bits of the facts, then as words. */
    private static final int YOUNG = 4;
    private static final int PLEADED = 5;
    private static final int KIND = 6;
    private static final int AGE = 7;
    private static final int POINTS = 8;
    private static final int VIEW_SIZE = 9;

    private static final int LINE_GRAVE = 0;
    private static final int LINE_POINTS = 1;
    private static final int LINE_OLD = 2;
    private static final int LINE_RANGE = 3;
    private static final int LINE_UP = 4;
    private static final int LINE_DOWN = 5;
    private static final int LINE_BESIDE = 6;
    private static final int LINE_BACK = 7;
    private static final int NUMBERS_OF_A_LINE = 4;

    private static final int MOST_OF_A_KIND = 9;
    private static final int MOST_STEP = 4;
    private static final int MOST_NUMBER = 999;

    /** The codes of a condition: a number is itself, VIEWED + i is a view's item, the others work on what stands ahead. */
    private static final int VIEWED = 1000;
    private static final int PLUS = 2000;
    private static final int LESS = 2001;
    private static final int EQUAL = 2002;
    private static final int MORE = 2003;
    private static final int NOT = 2004;
    private static final int AND = 2005;
    private static final int OR = 2006;

    /** Five conditions open within one another keep two values each, and a comparison three: 13 at most. */
    private static final int STACK_SIZE = 16;

    /** Two tables with the sums of months of all sets of eight terms. */
    private static final int HALF = 8;
    private static final int SETS_OF_HALF = 256;

    private final Docket docket = new Docket();
    private final Docket kept = new Docket();
    private boolean isKept = false;
    private final LawReader reader = new LawReader();
    private final Rows proof = new Rows();
    private final Trace bodies = new Trace();
    private final int[][] sheetItems = new int[SHEETS][MOST_ITEMS];
    private final int[] sheetSort = new int[SHEETS];
    private final int[] sheetSize = new int[SHEETS];
    private final int[] shelfHolds = new int[SHELVES];
    private final int[] shelfNumber = new int[SHELVES];
    private final int[] shelfSort = new int[SHELVES];
    private final int[] shelfSize = new int[SHELVES];
    private final int[] drawnMonths = new int[MOST_TERMS];
    private final int[] halfSums = new int[2 * SETS_OF_HALF];

    public PenaltyGrid() {
        Arrays.fill(sheetSort, MISSING);
        Arrays.fill(shelfHolds, HOLDS_NOTHING);
    }

    // ---- days, persons, deeds

    public int days(int n) {
        if (n < 1 || n > MOST_DAYS_AT_ONCE) return BAD;
        if (docket.today + n > LAST_DAY) return STATE;
        docket.today += n;
        return docket.today;
    }

    public int person(int years, int days) {
        if (years < 0 || years > OLDEST || days < 0 || days >= YEAR) return BAD;
        if (docket.persons >= MOST_PERSONS) return FULL;
        return docket.addPerson(years * YEAR + days);
    }

    public int age(int person, int day) {
        if (!docket.isPerson(person) || !isDay(day)) return BAD;
        return docket.yearsOf(person, day);
    }

    public int deed(int person, int kind, int day) {
        if (!docket.isPerson(person) || kind < 0 || kind >= KINDS || day < 0 || day > docket.today) return BAD;
        if (docket.deedCount >= MOST_DEEDS) return FULL;
        return docket.addDeed(person, kind, day);
    }

    public int finding(int deed, int facts, boolean pleaded) {
        if (!docket.isDeed(deed) || !areFacts(facts)) return BAD;
        if (docket.findingCount >= MOST_FINDINGS) return FULL;
        return docket.addFinding(deed, facts, pleaded);
    }

    public int deedOf(int deed, int k, int what) {
        if (!docket.isDeed(deed) || !isDay(k)) return BAD;
        Deed found = docket.deeds[deed];
        switch (what) {
            case 0: return found.person;
            case 1: return found.a;
            case 2: return found.day;
            case 3: return docket.factsOf(found, k);
            case 4: return docket.isPleaded(found, k) ? 1 : 0;
            case 5: return docket.termOf(found, k);
            default: return BAD;
        }
    }

    private static boolean isDay(int day) {
        return day >= 0 && day <= LAST_DAY;
    }

    private static boolean areFacts(int facts) {
        return facts >= 0 && facts <= ALL_FACTS;
    }

    // ---- laws

    public int feed(long eight, int n) {
        if (n < 1 || n > 8) return BAD;
        if (reader.tapeCount + n > MOST_TAPE) return FULL;
        for (int i = 0; i < n; i++) reader.addByte((byte) (eight >> (8 * i)));
        return reader.tapeCount;
    }

    public int read() {
        boolean isText = reader.readText();
        int fault = reader.fault();
        reader.tapeCount = 0;
        if (!isText) return FAULT - fault;
        if (docket.lawCount >= MOST_LAWS) return FULL;
        return docket.addLaw(reader);
    }

    public int version(int v, int what) {
        if (!docket.isLaw(v)) return BAD;
        Law found = docket.laws[v];
        switch (what) {
            case 0: return found.a;
            case 1: return found.day;
            case 2: return found.looksBack ? 1 : 0;
            default: return what >= 10 && what - 10 < found.a ? found.sorts[what - 10] : BAD;
        }
    }

    public int law(int deed, int judged) {
        if (!docket.isDeed(deed) || !isDay(judged) || judged < docket.deeds[deed].day) return BAD;
        Law found = docket.lawOf(docket.deeds[deed], judged);
        return found == null ? NONE : found.n;
    }

    public int points(int deed, int v, int k) {
        if (!isCase(deed, v, k)) return BAD;
        return docket.pointsBy(docket.laws[v], docket.deeds[deed], k);
    }

    public int grave(int deed, int v, int k) {
        if (!isCase(deed, v, k)) return BAD;
        return docket.graveBy(docket.laws[v], docket.deeds[deed], k);
    }

    public int range(int deed, int v, int k) {
        if (!isCase(deed, v, k)) return BAD;
        return docket.rangeBy(docket.laws[v], docket.deeds[deed], k);
    }

    private boolean isCase(int deed, int v, int k) {
        return docket.isDeed(deed) && docket.isLaw(v) && isDay(k);
    }

    // ---- terms, time

    public int term(int deed, int court, int months, int how) {
        if (!docket.isDeed(deed) || !isCourt(court) || months < 0 || months > MOST_MONTHS) return BAD;
        if (how < 0 || how / 10 >= REASONS || how % 10 > 1) return BAD;
        if (docket.termOf(docket.deeds[deed], docket.today) != NONE) return STATE;
        if (docket.termCount >= MOST_TERMS) return FULL;
        return docket.addTerm(deed, court, months, how);
    }

    public int appeal(int term) {
        if (!docket.isTerm(term)) return BAD;
        if (!docket.stands(term, docket.today)) return STATE;
        docket.unwound[term] = docket.today;
        return docket.standing(docket.today);
    }

    public int amiss(int k) {
        if (!isDay(k)) return BAD;
        int bits = 0;
        for (int i = 0; i < docket.termCount; i++) {
            if (docket.stands(i, k) && docket.isAmiss(docket.terms[i], k)) bits |= 1 << i;
        }
        return bits;
    }

    public int held(int person, int from, int to) {
        if (!docket.isPerson(person) || from < 0 || to < from || to > docket.today) return BAD;
        if (docket.heldCount >= MOST_HELD) return FULL;
        return docket.addHeld(person, from, to);
    }

    public int credit(int person, int k) {
        if (!docket.isPerson(person) || !isDay(k)) return BAD;
        return docket.creditOf(person, k);
    }

    public int good(int person, int n) {
        if (!docket.isPerson(person) || n < 1 || n > MOST_GOOD_AT_ONCE) return BAD;
        if (docket.goodDays[person] + n > MOST_GOOD) return STATE;
        docket.goodDays[person] += n;
        return docket.goodDays[person];
    }

    public int release(int person, int k) {
        if (!docket.isPerson(person) || !isDay(k)) return BAD;
        return docket.releaseOf(person, k);
    }

    public int beds(int day, int k) {
        if (!isDay(day) || !isDay(k)) return BAD;
        int taken = 0;
        for (int person = 0; person < docket.persons; person++) {
            int first = docket.firstPassed(person, k);
            if (first != NONE && first <= day && docket.releaseOf(person, k) > day) taken++;
        }
        return taken;
    }

    public int prove(int person) {
        if (!docket.isPerson(person)) return BAD;
        docket.fillTime(person, docket.today, proof);
        return proof.count;
    }

    public int row(int i, int what) {
        return proof.isCell(i, what) ? proof.get(i, what) : NO_CELL;
    }

    public int alterRow(int i, int what, int v) {
        if (!proof.isCell(i, what)) return NO_CELL;
        int before = proof.get(i, what);
        proof.set(i, what, v);
        return before;
    }

    public int judge() {
        for (int i = 0; i < proof.count; i++) {
            if (!isRightRow(i)) return i + 1;
        }
        return 0;
    }

    /** Whether a row is right by the rows ahead of it, which are right. */
    private boolean isRightRow(int i) {
        int number = proof.get(i, Rows.TERM);
        if (!docket.isTerm(number) || !docket.stands(number, docket.today)) return false;
        Term passed = docket.terms[number];
        if (i > 0) {
            int first = proof.get(0, Rows.TERM);
            if (number <= proof.get(i - 1, Rows.TERM) || !docket.isTerm(first)) return false;
            if (docket.terms[first].deed.person != passed.deed.person) return false;
        }
        int begin = docket.beginOf(passed, proof.latestEnd(i), docket.today);
        return proof.get(i, Rows.BEGIN) == begin && proof.get(i, Rows.END) == begin + MONTH * passed.a;
    }

    // ---- spread, another law, like

    public int spread(int court, int k, int what) {
        if (!isCourt(court) || !isDay(k) || what < 0 || what > 4) return BAD;
        int all = 0;
        int own = 0;
        int sum = 0;
        int ownSum = 0;
        for (int i = 0; i < docket.termCount; i++) {
            Term passed = docket.terms[i];
            if (!passed.isDrawn() || !docket.stands(i, k)) continue;
            drawnMonths[all] = passed.a;
            all++;
            sum += passed.a;
            if (passed.court != court) continue;
            own++;
            ownSum += passed.a;
        }
        if (what == 0) return own;
        if (what == 1) return all;
        if (own < 2 || all - own < 2) return STATE;
        if (what == 2) return 1000000 + ownSum * (all - own) - (sum - ownSum) * own;
        return what == 3 ? waysAtLeast(all, own, ownSum) : ways(all, own);
    }

    private static boolean isCourt(int court) {
        return court >= 0 && court < COURTS;
    }

    /** How many ways there are to choose so many of all. */
    private static int ways(int all, int chosen) {
        int ways = 1;
        for (int i = 1; i <= chosen; i++) ways = ways * (all - chosen + i) / i;
        return ways;
    }

    /**
     * How many choices of so many drawn terms have at least such a sum of months. All sums being the
     * same, the excess of a choice grows with its own sum alone, so sums are compared.
     */
    private int waysAtLeast(int all, int chosen, int leastSum) {
        fillHalfSums(all);
        int atLeast = 0;
        int choices = ways(all, chosen);
        int set = (1 << chosen) - 1;
        for (int i = 0; i < choices; i++) {
            int low = set & (SETS_OF_HALF - 1);
            int high = (set >> HALF) & (SETS_OF_HALF - 1);
            if (halfSums[low] + halfSums[SETS_OF_HALF + high] >= leastSum) atLeast++;
            set = nextSet(set);
        }
        return atLeast;
    }

    /** The next greater set of as many terms: its lowest run of bits moves one bit up, the rest of the run falls down. */
    private static int nextSet(int set) {
        int moved = set + (set & -set);
        return moved | (set ^ moved) >>> (2 + Integer.numberOfTrailingZeros(set));
    }

    private void fillHalfSums(int all) {
        for (int set = 1; set < SETS_OF_HALF; set++) {
            int least = Integer.numberOfTrailingZeros(set);
            int rest = set & (set - 1);
            halfSums[set] = halfSums[rest] + (least < all ? drawnMonths[least] : 0);
            halfSums[SETS_OF_HALF + set] = halfSums[SETS_OF_HALF + rest] + (HALF + least < all ? drawnMonths[HALF + least] : 0);
        }
    }

    public int another(int v, boolean most) {
        if (!docket.isLaw(v)) return BAD;
        int sum = 0;
        for (int i = 0; i < docket.termCount; i++) {
            if (!docket.stands(i, docket.today)) continue;
            int range = docket.rangeBy(docket.laws[v], docket.terms[i].deed, docket.today);
            if (range != NONE) sum += most ? range % 1000 : range / 1000;
        }
        return sum;
    }

    public int like(int deed, int k) {
        if (!docket.isDeed(deed) || !isDay(k)) return BAD;
        int best = NONE;
        int least = 0;
        for (int i = 0; i < docket.deedCount; i++) {
            if (i == deed || docket.termOf(docket.deeds[i], k) == NONE) continue;
            int apart = docket.apart(docket.deeds[deed], docket.deeds[i], k);
            if (best == NONE || apart < least) {
                best = i;
                least = apart;
            }
        }
        return best;
    }

    // ---- the host

    public int sheet(int sheet, int sort, int n) {
        if (!isSheet(sheet)) return BAD;
        if (sort == MISSING) {
            sheetSort[sheet] = MISSING;
            return 1;
        }
        if (!isSort(sort) || n > MOST_ITEMS) return BAD;
        if (n < 0) return BELOW_ZERO;
        sheetSort[sheet] = sort;
        sheetSize[sheet] = n;
        Arrays.fill(sheetItems[sheet], 0);
        return 1;
    }

    public int put(int sheet, int i, int v) {
        if (!isSheet(sheet)) return BAD;
        if (sheetSort[sheet] == MISSING) return NOTHING;
        if (i < 0 || i >= sheetSize[sheet]) return OUTSIDE;
        sheetItems[sheet][i] = narrowed(v, sheetSort[sheet]);
        return 1;
    }

    public int item(int sheet, int sort, int i) {
        if (!isSheet(sheet) || !isSort(sort)) return BAD;
        int refusal = refusalAs(sheet, sort);
        if (refusal != 0) return refusal;
        if (i < 0 || i >= sheetSize[sheet]) return OUTSIDE;
        return sheetItems[sheet][i];
    }

    public int comes(int deed, int sheet, int i, int n) {
        if (!docket.isDeed(deed) || !isSheet(sheet) || n < 0 || n > MOST_COMING) return BAD;
        int refusal = refusalAs(sheet, SHORTS);
        if (refusal != 0) return refusal;
        int came = 0;
        for (int at = 0; at < n; at++) {
            int place = i + at;
            if (place < 0 || place >= sheetSize[sheet]) return OUTSIDE;
            int facts = sheetItems[sheet][place];
            if (!areFacts(facts)) continue;
            if (docket.findingCount >= MOST_FINDINGS) return FULL;
            docket.addFinding(deed, facts, false);
            came++;
        }
        return came;
    }

    public int shelf(int shelf, int what, int n) {
        if (!isShelf(shelf) || !isThing(what, n)) return BAD;
        shelfHolds[shelf] = what;
        shelfNumber[shelf] = n;
        if (what != HOLDS_ROW) return 1;
        if (sheetSort[n] == MISSING) shelfHolds[shelf] = HOLDS_NOTHING;
        // A row on a shelf is asked for its sort and size alone, and neither changes any more.
        shelfSort[shelf] = sheetSort[n];
        shelfSize[shelf] = sheetSize[n];
        return 1;
    }

    public int taken(int shelf, int as) {
        if (!isShelf(shelf) || !isPaperKind(as) && !isSort(as - 10)) return BAD;
        if (shelfHolds[shelf] == HOLDS_ROW) return as - 10 == shelfSort[shelf] ? shelfSize[shelf] : OTHER_SORT;
        Paper paper = paperOn(shelf);
        if (paper == null) return NOTHING;
        return isPaperKind(as) && isOfKind(paper, as) ? paper.n : OTHER_SORT;
    }

    public int act(int shelf, int act, int x) {
        bodies.clear();
        if (!isShelf(shelf)) return 0;
        Paper paper = paperOn(shelf);
        if (paper == null) return 0;
        int answer;
        switch (act) {
            case 0: answer = paper.weighs(x, bodies); break;
            case 1: answer = paper.bars(x, bodies); break;
            case 2: answer = paper.parts(x, bodies); break;
            case 3: answer = paper.tells(x, bodies); break;
            default: answer = 0; break;
        }
        return bodies.isParted ? PARTED_BY_ZERO : answer;
    }

    public int trace(int i) {
        return i >= 0 && i < bodies.count ? bodies.numbers[i] : NONE;
    }

    public int many(int what) {
        switch (what) {
            case 0: return docket.today;
            case 1: return docket.persons;
            case 2: return docket.deedCount;
            case 3: return docket.findingCount;
            case 4: return docket.lawCount;
            case 5: return docket.termCount;
            case 6: return docket.standing(docket.today);
            case 7: return docket.heldCount;
            case 8: return proof.count;
            case 9: return reader.tapeCount;
            case 10: return bodies.count;
            default: return BAD;
        }
    }

    private static boolean isSheet(int sheet) {
        return sheet >= 0 && sheet < SHEETS;
    }

    private static boolean isShelf(int shelf) {
        return shelf >= 0 && shelf < SHELVES;
    }

    private static boolean isSort(int sort) {
        return sort >= BYTES && sort <= BOOLEANS;
    }

    private static boolean isPaperKind(int kind) {
        return kind >= 0 && kind <= 6;
    }

    private static int narrowed(int v, int sort) {
        switch (sort) {
            case BYTES: return (byte) v;
            case SHORTS: return (short) v;
            case BOOLEANS: return v != 0 ? 1 : 0;
            default: return v;
        }
    }

    /** 0 if a sheet can be taken for a sort, else why it can't. */
    private int refusalAs(int sheet, int sort) {
        if (sheetSort[sheet] == MISSING) return NOTHING;
        return sheetSort[sheet] == sort ? 0 : OTHER_SORT;
    }

    private boolean isThing(int what, int n) {
        switch (what) {
            case HOLDS_DEED: return docket.isDeed(n);
            case HOLDS_FINDING: return docket.isFinding(n);
            case HOLDS_TERM: return docket.isTerm(n);
            case HOLDS_LAW: return docket.isLaw(n);
            case HOLDS_ROW: return isSheet(n);
            default: return what == HOLDS_NOTHING;
        }
    }

    /** The paper that a shelf's number names now, for it may have gone, and another may have come, by again(). */
    private Paper paperOn(int shelf) {
        int n = shelfNumber[shelf];
        if (!isThing(shelfHolds[shelf], n)) return null;
        switch (shelfHolds[shelf]) {
            case HOLDS_DEED: return docket.deeds[n];
            case HOLDS_FINDING: return docket.findings[n];
            case HOLDS_TERM: return docket.terms[n];
            case HOLDS_LAW: return docket.laws[n];
            default: return null;
        }
    }

    private static boolean isOfKind(Paper paper, int kind) {
        switch (kind) {
            case 1: return paper instanceof Deed;
            case 2: return paper instanceof YoungDeed;
            case 3: return paper instanceof Finding;
            case 4: return paper instanceof Term;
            case 5: return paper instanceof DrawnTerm;
            case 6: return paper instanceof Law;
            default: return kind == 0;
        }
    }

    // ---- kept

    public int keep() {
        kept.become(docket);
        isKept = true;
        return 1;
    }

    public int again() {
        if (!isKept) return NONE;
        docket.become(kept);
        return 1;
    }

    /** The numbers of the bodies that ran in an act, and whether it was parted by 0. */
    private static final class Trace {
        final int[] numbers = new int[MOST_TRACE];
        int count = 0;
        boolean isParted = false;

        void clear() {
            count = 0;
            isParted = false;
        }

        void begin(int body) {
            if (count >= MOST_TRACE) return;
            numbers[count] = body;
            count++;
        }
    }

    private abstract static class Paper {
        final int n;
        final int a;

        Paper(int n, int a) {
            this.n = n;
            this.a = a;
        }

        int weighs(int x, Trace trace) {
            trace.begin(10);
            return x * 2 + n;
        }

        int bars(int x, Trace trace) {
            trace.begin(11);
            return weighs(x, trace) - a;
        }

        int parts(int x, Trace trace) {
            trace.begin(12);
            int by = a - n;
            if (by == 0) {
                trace.isParted = true;
                return 0;
            }
            return x / by;
        }

        int tells(int x, Trace trace) {
            trace.begin(13);
            return bars(x, trace) ^ a;
        }
    }

    /** Its a is its kind. */
    private static class Deed extends Paper {
        final int person;
        final int day;
        final int years;

        Deed(int n, int kind, int person, int day, int years) {
            super(n, kind);
            this.person = person;
            this.day = day;
            this.years = years;
        }

        int weighs(int x, Trace trace) {
            trace.begin(20);
            return super.weighs(x, trace) + a;
        }
    }

    private static final class YoungDeed extends Deed {
        YoungDeed(int n, int kind, int person, int day, int years) {
            super(n, kind, person, day, years);
        }

        int bars(int x, Trace trace) {
            trace.begin(30);
            return super.bars(x, trace) - weighs(0, trace);
        }
    }

    /** Its a is its facts. */
    private static final class Finding extends Paper {
        final Deed deed;
        final boolean pleaded;
        final int day;

        Finding(int n, int facts, Deed deed, boolean pleaded, int day) {
            super(n, facts);
            this.deed = deed;
            this.pleaded = pleaded;
            this.day = day;
        }

        int parts(int x, Trace trace) {
            trace.begin(40);
            return super.parts(x + 2, trace);
        }

        int tells(int x, Trace trace) {
            trace.begin(41);
            return super.tells(x, trace) * 5;
        }
    }

    /** Its a is its months. */
    private static class Term extends Paper {
        final Deed deed;
        final int court;
        final int reason;
        final int day;

        Term(int n, int months, Deed deed, int court, int reason, int day) {
            super(n, months);
            this.deed = deed;
            this.court = court;
            this.reason = reason;
            this.day = day;
        }

        boolean isDrawn() {
            return false;
        }

        int bars(int x, Trace trace) {
            trace.begin(50);
            return super.bars(x, trace) + 30;
        }
    }

    private static final class DrawnTerm extends Term {
        DrawnTerm(int n, int months, Deed deed, int court, int reason, int day) {
            super(n, months, deed, court, reason, day);
        }

        boolean isDrawn() {
            return true;
        }

        int weighs(int x, Trace trace) {
            trace.begin(60);
            return super.weighs(x, trace) ^ 6;
        }

        int parts(int x, Trace trace) {
            trace.begin(61);
            return super.parts(x, trace) - 1;
        }
    }

    /** A version of the law; its a is how many lines it has. */
    private static final class Law extends Paper {
        final int day;
        final boolean looksBack;
        final int[] sorts;
        final int[] kindGrave = new int[KINDS];
        final int[] kindPoints = new int[KINDS];
        final int old;
        private final int[] ranges = new int[GRAVES * OFTENS];
        private final int[] steps;
        private final int[] condStart;
        private final int[] condEnd;
        private final int[] code;
        private final int[] stack = new int[STACK_SIZE];

        /** What a later line says of the same thing is written over what an earlier one said. */
        Law(int n, int day, LawReader read) {
            super(n, read.lines);
            this.day = day;
            sorts = Arrays.copyOf(read.sorts, a);
            condStart = Arrays.copyOf(read.condStart, a);
            condEnd = Arrays.copyOf(read.condEnd, a);
            code = Arrays.copyOf(read.code, read.codes);
            steps = new int[a];
            Arrays.fill(ranges, NONE);
            boolean back = false;
            int years = OLDEST;
            for (int i = 0; i < a; i++) {
                int first = read.number(i, 0);
                int second = read.number(i, 1);
                switch (sorts[i]) {
                    case LINE_GRAVE: kindGrave[first] = second; break;
                    case LINE_POINTS: kindPoints[first] = second; break;
                    case LINE_OLD: years = first; break;
                    case LINE_RANGE: ranges[first * OFTENS + second] = 1000 * read.number(i, 2) + read.number(i, 3); break;
                    case LINE_UP: steps[i] = first; break;
                    case LINE_DOWN: steps[i] = -first; break;
                    case LINE_BACK: back = true; break;
                    default: break;
                }
            }
            looksBack = back;
            old = years;
        }

        int tells(int x, Trace trace) {
            trace.begin(70);
            return super.tells(x, trace) + weighs(a, trace);
        }

        int graveFor(int[] view) {
            int grave = kindGrave[view[KIND]];
            for (int i = 0; i < a; i++) {
                if (steps[i] != 0 && holds(i, view)) grave += steps[i];
            }
            return Math.max(0, Math.min(GRAVES - 1, grave));
        }

        /** 1000 times the least months, and the most, or NONE. */
        int rangeFor(int[] view) {
            int often = Math.min(OFTENS - 1, view[POINTS] / 3);
            return ranges[graveFor(view) * OFTENS + often];
        }

        boolean isBeside(int[] view) {
            for (int i = 0; i < a; i++) {
                if (sorts[i] == LINE_BESIDE && holds(i, view)) return true;
            }
            return false;
        }

        private boolean holds(int line, int[] view) {
            int top = 0;
            for (int i = condStart[line]; i < condEnd[line]; i++) {
                int next = code[i];
                if (next < PLUS) {
                    if (top >= STACK_SIZE) return false;
                    stack[top] = next < VIEWED ? next : view[next - VIEWED];
                    top++;
                } else if (next == NOT) {
                    if (top < 1) return false;
                    stack[top - 1] = 1 - stack[top - 1];
                } else {
                    if (top < 2) return false;
                    top--;
                    stack[top - 1] = joined(next, stack[top - 1], stack[top]);
                }
            }
            return top == 1 && stack[0] != 0;
        }

        private static int joined(int how, int left, int right) {
            switch (how) {
                case PLUS: return left + right;
                case LESS: return left < right ? 1 : 0;
                case EQUAL: return left == right ? 1 : 0;
                case MORE: return left > right ? 1 : 0;
                case AND: return left & right;
                default: return left | right;
            }
        }
    }

    /** Reads the tape as the text of a law: cuts it into tokens, then goes through them from the left. */
    private static final class LawReader {
        /** The first eight are the sorts of lines in their order, those from FIRST_FLAG on a view's items in their order. */
        private static final String WORDS =
            "grave points old range up down beside back weapon hurt helped gave young pleaded kind age if to or and not ";
        private static final int WORD = 1000;
        private static final int POINTS_WORD = WORD + LINE_POINTS;
        private static final int FIRST_FLAG = WORD + 8;
        private static final int KIND_WORD = FIRST_FLAG + KIND;
        private static final int AGE_WORD = FIRST_FLAG + AGE;
        private static final int IF_WORD = WORD + 16;
        private static final int TO_WORD = WORD + 17;
        private static final int OR_WORD = WORD + 18;
        private static final int AND_WORD = WORD + 19;
        private static final int NOT_WORD = WORD + 20;
        private static final int SIGN = 2000;
        private static final int THE_END = 3000;
        private static final int UNKNOWN = 3001;

        private static final int IS_BLANK = 0;
        private static final int IS_LETTER = 1;
        private static final int IS_DIGIT = 2;
        private static final int IS_SIGN = 3;

        int tapeCount = 0;
        int lines = 0;
        int codes = 0;
        final int[] sorts = new int[MOST_LINES];
        final int[] condStart = new int[MOST_LINES];
        final int[] condEnd = new int[MOST_LINES];
        final int[] code = new int[MOST_TAPE];
        private final int[] numbers = new int[MOST_LINES * NUMBERS_OF_A_LINE];
        private final byte[] tape = new byte[MOST_TAPE];
        private final int[] tokens = new int[MOST_TAPE + 1];
        private final int[] tokenPlace = new int[MOST_TAPE + 1];
        private int tokenCount = 0;
        private int next = 0;

        void addByte(byte b) {
            if (tapeCount >= MOST_TAPE) return;
            tape[tapeCount] = b;
            tapeCount++;
        }

        int number(int line, int i) {
            return numbers[line * NUMBERS_OF_A_LINE + i];
        }

        /** The place of the token that can't stand where it stands. */
        int fault() {
            return next < tokenCount ? tokenPlace[next] : tapeCount;
        }

        boolean readText() {
            cutTape();
            next = 0;
            lines = 0;
            codes = 0;
            for (int i = 0; i < MOST_LINES; i++) {
                if (token() == THE_END) return true;
                if (!readLine()) return false;
            }
            return token() == THE_END;
        }

        private void cutTape() {
            tokenCount = 0;
            int before = IS_BLANK;
            for (int i = 0; i < tapeCount; i++) {
                int sort = sortAt(i);
                if (sort == IS_SIGN) addToken(SIGN + (tape[i] & 255), i);
                if (sort == IS_LETTER && before != IS_LETTER) addToken(wordAt(i), i);
                if (sort == IS_DIGIT && before != IS_DIGIT) addToken(numberAt(i), i);
                before = sort;
            }
            addToken(THE_END, tapeCount);
        }

        private void addToken(int token, int place) {
            if (tokenCount >= tokens.length) return;
            tokens[tokenCount] = token;
            tokenPlace[tokenCount] = place;
            tokenCount++;
        }

        private int sortAt(int i) {
            int b = tape[i];
            if (b == ' ') return IS_BLANK;
            if (b >= 'a' && b <= 'z') return IS_LETTER;
            return b >= '0' && b <= '9' ? IS_DIGIT : IS_SIGN;
        }

        private int numberAt(int from) {
            int number = 0;
            for (int i = from; i < tapeCount && sortAt(i) == IS_DIGIT; i++) {
                if (i - from >= 3) return UNKNOWN;
                number = number * 10 + tape[i] - '0';
            }
            return number;
        }

        private int wordAt(int from) {
            int length = 0;
            for (int i = from; i < tapeCount && sortAt(i) == IS_LETTER; i++) length++;
            int word = WORD;
            int same = 0;
            for (int i = 0; i < WORDS.length(); i++) {
                char letter = WORDS.charAt(i);
                if (letter != ' ') {
                    same = same >= 0 && same < length && tape[from + same] == letter ? same + 1 : -1;
                } else {
                    if (same == length) return word;
                    word++;
                    same = 0;
                }
            }
            return UNKNOWN;
        }

        private int token() {
            return next < tokenCount ? tokens[next] : THE_END;
        }

        private boolean take(int token) {
            if (token() != token) return false;
            next++;
            return true;
        }

        private boolean takeNumber(int i, int least, int most) {
            int number = token();
            if (number < least || number > most) return false;
            numbers[lines * NUMBERS_OF_A_LINE + i] = number;
            next++;
            return true;
        }

        private void emit(int what) {
            if (codes >= code.length) return;
            code[codes] = what;
            codes++;
        }

        private boolean readLine() {
            int sort = token() - WORD;
            if (sort < LINE_GRAVE || sort > LINE_BACK) return false;
            next++;
            sorts[lines] = sort;
            condStart[lines] = codes;
            boolean isRight = true;
            switch (sort) {
                case LINE_GRAVE:
                case LINE_POINTS:
                    isRight = takeNumber(0, 0, KINDS - 1) && takeNumber(1, 0, MOST_OF_A_KIND);
                    break;
                case LINE_OLD:
                    isRight = takeNumber(0, 0, OLDEST);
                    break;
                case LINE_RANGE:
                    isRight = takeNumber(0, 0, GRAVES - 1) && takeNumber(1, 0, OFTENS - 1) && takeNumber(2, 0, MOST_MONTHS)
                        && take(TO_WORD) && takeNumber(3, number(lines, 2), MOST_MONTHS);
                    break;
                case LINE_UP:
                case LINE_DOWN:
                    isRight = takeNumber(0, 0, MOST_STEP) && take(IF_WORD) && readCond(0);
                    break;
                case LINE_BESIDE:
                    isRight = take(IF_WORD) && readCond(0);
                    break;
                default:
                    break;
            }
            if (!isRight || !take(SIGN + ';')) return false;
            condEnd[lines] = codes;
            lines++;
            return true;
        }

        /** open: how many "(" are open around it. */
        private boolean readCond(int open) {
            boolean isAnd = false;
            boolean isOr = false;
            for (int i = 0; i < MOST_TAPE; i++) {
                if (!readOne(open)) return false;
                if (isAnd) emit(AND);
                isAnd = take(AND_WORD);
                if (isAnd) continue;
                if (isOr) emit(OR);
                isOr = take(OR_WORD);
                if (!isOr) return true;
            }
            return false;
        }

        private boolean readOne(int open) {
            boolean isNot = false;
            for (int i = 0; i < MOST_TAPE && take(NOT_WORD); i++) isNot = !isNot;
            int flag = token() - FIRST_FLAG;
            if (flag >= 0 && flag <= PLEADED) {
                next++;
                emit(VIEWED + flag);
            } else if (token() == SIGN + '(') {
                if (open >= MOST_OPEN) return false;
                next++;
                if (!readCond(open + 1) || !take(SIGN + ')')) return false;
            } else {
                if (!readSum()) return false;
                int how = comparisonOf(token());
                if (how < 0) return false;
                next++;
                if (!readSum()) return false;
                emit(how);
            }
            if (isNot) emit(NOT);
            return true;
        }

        private boolean readSum() {
            for (int i = 0; i < MOST_TAPE; i++) {
                int value = valueOf(token());
                if (value < 0) return false;
                next++;
                emit(value);
                if (i > 0) emit(PLUS);
                if (!take(SIGN + '+')) return true;
            }
            return false;
        }

        /** The code of a token that compares, else -1. */
        private static int comparisonOf(int token) {
            switch (token) {
                case SIGN + '<': return LESS;
                case SIGN + '=': return EQUAL;
                case SIGN + '>': return MORE;
                default: return -1;
            }
        }

        /** The code of a token that is a value, else -1. */
        private static int valueOf(int token) {
            switch (token) {
                case POINTS_WORD: return VIEWED + POINTS;
                case KIND_WORD: return VIEWED + KIND;
                case AGE_WORD: return VIEWED + AGE;
                default: return token <= MOST_NUMBER ? token : -1;
            }
        }
    }

    /** Rows of a person's time: the term, the day on which it begins, on which it ends. */
    private static final class Rows {
        static final int TERM = 0;
        static final int BEGIN = 1;
        static final int END = 2;
        private static final int WIDTH = 3;

        private final int[] cells = new int[MOST_TERMS * WIDTH];
        int count = 0;

        boolean isCell(int i, int what) {
            return i >= 0 && i < count && what >= 0 && what < WIDTH;
        }

        int get(int i, int what) {
            return cells[i * WIDTH + what];
        }

        void set(int i, int what, int v) {
            cells[i * WIDTH + what] = v;
        }

        void add(int term, int begin, int end) {
            if (count >= MOST_TERMS) return;
            set(count, TERM, term);
            set(count, BEGIN, begin);
            set(count, END, end);
            count++;
        }

        /** The latest end of the first so many rows; 0 without rows, for no term begins ahead of day 0. */
        int latestEnd(int rows) {
            int latest = 0;
            for (int i = 0; i < rows; i++) latest = Math.max(latest, get(i, END));
            return latest;
        }
    }

    /** All that is kept: what came, and what the laws say of it. */
    private static final class Docket {
        private static final int NEVER = LAST_DAY + 1;

        int today = 0;
        int persons = 0;
        final int[] born = new int[MOST_PERSONS];
        final int[] goodDays = new int[MOST_PERSONS];
        int deedCount = 0;
        final Deed[] deeds = new Deed[MOST_DEEDS];
        int findingCount = 0;
        final Finding[] findings = new Finding[MOST_FINDINGS];
        int lawCount = 0;
        final Law[] laws = new Law[MOST_LAWS];
        int termCount = 0;
        final Term[] terms = new Term[MOST_TERMS];
        final int[] unwound = new int[MOST_TERMS];
        int heldCount = 0;
        private final int[] heldPerson = new int[MOST_HELD];
        private final int[] heldFrom = new int[MOST_HELD];
        private final int[] heldTo = new int[MOST_HELD];
        private final int[] view = new int[VIEW_SIZE];
        private final Rows time = new Rows();

        /** Deeds, findings, laws and terms never change, so both may hold the same ones. */
        void become(Docket other) {
            today = other.today;
            persons = other.persons;
            deedCount = other.deedCount;
            findingCount = other.findingCount;
            lawCount = other.lawCount;
            termCount = other.termCount;
            heldCount = other.heldCount;
            for (int i = 0; i < persons; i++) {
                born[i] = other.born[i];
                goodDays[i] = other.goodDays[i];
            }
            for (int i = 0; i < deedCount; i++) deeds[i] = other.deeds[i];
            for (int i = 0; i < findingCount; i++) findings[i] = other.findings[i];
            for (int i = 0; i < lawCount; i++) laws[i] = other.laws[i];
            for (int i = 0; i < termCount; i++) {
                terms[i] = other.terms[i];
                unwound[i] = other.unwound[i];
            }
            for (int i = 0; i < heldCount; i++) {
                heldPerson[i] = other.heldPerson[i];
                heldFrom[i] = other.heldFrom[i];
                heldTo[i] = other.heldTo[i];
            }
        }

        boolean isPerson(int person) {
            return person >= 0 && person < persons;
        }

        boolean isDeed(int n) {
            return n >= 0 && n < deedCount;
        }

        boolean isFinding(int n) {
            return n >= 0 && n < findingCount;
        }

        boolean isLaw(int n) {
            return n >= 0 && n < lawCount;
        }

        boolean isTerm(int n) {
            return n >= 0 && n < termCount;
        }

        int addPerson(int daysAhead) {
            born[persons] = daysAhead;
            goodDays[persons] = 0;
            return persons++;
        }

        int addDeed(int person, int kind, int day) {
            int years = yearsOf(person, day);
            deeds[deedCount] = years < GROWN_UP
                ? new YoungDeed(deedCount, kind, person, day, years)
                : new Deed(deedCount, kind, person, day, years);
            return deedCount++;
        }

        int addFinding(int deed, int facts, boolean pleaded) {
            findings[findingCount] = new Finding(findingCount, facts, deeds[deed], pleaded, today);
            return findingCount++;
        }

        int addLaw(LawReader read) {
            laws[lawCount] = new Law(lawCount, today, read);
            return lawCount++;
        }

        /** how: 10 times the reason, and 1 if drawn. */
        int addTerm(int deed, int court, int months, int how) {
            terms[termCount] = how % 10 == 1
                ? new DrawnTerm(termCount, months, deeds[deed], court, how / 10, today)
                : new Term(termCount, months, deeds[deed], court, how / 10, today);
            unwound[termCount] = NEVER;
            return termCount++;
        }

        int addHeld(int person, int from, int to) {
            heldPerson[heldCount] = person;
            heldFrom[heldCount] = from;
            heldTo[heldCount] = to;
            heldCount++;
            return heldCount;
        }

        int yearsOf(int person, int day) {
            return (born[person] + day) / YEAR;
        }

        private Finding findingOf(Deed deed, int k) {
            for (int i = findingCount - 1; i >= 0; i--) {
                if (findings[i].deed == deed && findings[i].day <= k) return findings[i];
            }
            return null;
        }

        int factsOf(Deed deed, int k) {
            Finding known = findingOf(deed, k);
            return known == null ? 0 : known.a;
        }

        boolean isPleaded(Deed deed, int k) {
            Finding known = findingOf(deed, k);
            return known != null && known.pleaded;
        }

        boolean stands(int term, int k) {
            return terms[term].day <= k && unwound[term] > k;
        }

        int standing(int k) {
            int count = 0;
            for (int i = 0; i < termCount; i++) {
                if (stands(i, k)) count++;
            }
            return count;
        }

        /** The term of a deed that stands, or NONE; there is one at most, for a next one has to wait for an appeal. */
        int termOf(Deed deed, int k) {
            for (int i = 0; i < termCount; i++) {
                if (terms[i].deed == deed && stands(i, k)) return i;
            }
            return NONE;
        }

        Law lawOf(Deed deed, int judged) {
            Law inForce = null;
            Law lookingBack = null;
            for (int i = 0; i < lawCount; i++) {
                if (laws[i].day <= deed.day) inForce = laws[i];
                else if (laws[i].day <= judged && laws[i].looksBack) lookingBack = laws[i];
            }
            return lookingBack != null ? lookingBack : inForce;
        }

        /** A deed has one term at most that stands, so going through the terms takes each deed once. */
        int pointsBy(Law law, Deed deed, int k) {
            int points = 0;
            for (int i = 0; i < termCount; i++) {
                Deed other = terms[i].deed;
                if (other == deed || other.person != deed.person) continue;
                if (!stands(i, k) || terms[i].day >= deed.day) continue;
                if (deed.day - other.day <= law.old * YEAR) points += law.kindPoints[other.a];
            }
            return points;
        }

        private void fillView(Law law, Deed deed, int k) {
            int facts = factsOf(deed, k);
            for (int bit = 0; bit < YOUNG; bit++) view[bit] = facts >> bit & 1;
            view[YOUNG] = deed.years < GROWN_UP ? 1 : 0;
            view[PLEADED] = isPleaded(deed, k) ? 1 : 0;
            view[KIND] = deed.a;
            view[AGE] = deed.years;
            view[POINTS] = pointsBy(law, deed, k);
        }

        int graveBy(Law law, Deed deed, int k) {
            fillView(law, deed, k);
            return law.graveFor(view);
        }

        int rangeBy(Law law, Deed deed, int k) {
            fillView(law, deed, k);
            return law.rangeFor(view);
        }

        boolean isAmiss(Term term, int k) {
            Law law = lawOf(term.deed, term.day);
            if (law == null) return true;
            int range = rangeBy(law, term.deed, k);
            if (range == NONE) return true;
            return term.reason == 0 && (term.a < range / 1000 || term.a > range % 1000);
        }

        /** latest: the day on which the latest of the terms ahead of it ends. */
        int beginOf(Term term, int latest, int k) {
            if (latest <= term.day) return term.day;
            Law law = lawOf(term.deed, term.day);
            if (law == null) return latest;
            fillView(law, term.deed, k);
            return law.isBeside(view) ? term.day : latest;
        }

        void fillTime(int person, int k, Rows rows) {
            rows.count = 0;
            for (int i = 0; i < termCount; i++) {
                if (terms[i].deed.person != person || !stands(i, k)) continue;
                int begin = beginOf(terms[i], rows.latestEnd(rows.count), k);
                rows.add(i, begin, begin + MONTH * terms[i].a);
            }
        }

        int firstPassed(int person, int k) {
            for (int i = 0; i < termCount; i++) {
                if (terms[i].deed.person == person && stands(i, k)) return terms[i].day;
            }
            return NONE;
        }

        private int lastPassed(int person, int k) {
            for (int i = termCount - 1; i >= 0; i--) {
                if (terms[i].deed.person == person && stands(i, k)) return terms[i].day;
            }
            return NONE;
        }

        int creditOf(int person, int k) {
            int first = firstPassed(person, k);
            return first == NONE ? 0 : heldAhead(person, first);
        }

        /** Days held ahead of a day: each pass takes the earliest stretch that is left, and the days behind it go on. */
        private int heldAhead(int person, int day) {
            int sum = 0;
            int from = 0;
            for (int pass = 0; pass < heldCount; pass++) {
                int start = day;
                int end = day;
                for (int i = 0; i < heldCount; i++) {
                    if (heldPerson[i] != person || heldTo[i] < from) continue;
                    int begin = Math.max(heldFrom[i], from);
                    if (begin >= start) continue;
                    start = begin;
                    end = Math.min(heldTo[i] + 1, day);
                }
                sum += end - start;
                from = end;
            }
            return sum;
        }

        int releaseOf(int person, int k) {
            fillTime(person, k, time);
            if (time.count == 0) return NONE;
            int end = time.latestEnd(time.count) - creditOf(person, k) - goodDays[person];
            return Math.max(lastPassed(person, k), end);
        }

        private int pointsJudged(Deed deed, int k) {
            Law law = lawOf(deed, k);
            return law == null ? 0 : pointsBy(law, deed, k);
        }

        /** How far two deeds are from being alike. */
        int apart(Deed one, Deed other, int k) {
            int sum = one.a == other.a ? 0 : 3;
            sum += Integer.bitCount(factsOf(one, k) ^ factsOf(other, k));
            if (one.years < GROWN_UP != other.years < GROWN_UP) sum += 2;
            return sum + Math.abs(pointsJudged(one, k) - pointsJudged(other, k));
        }
    }
}
