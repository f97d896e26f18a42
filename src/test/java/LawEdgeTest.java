/** The bounds that the document's terms tell of which LAW is in force, of POINTS, OFTEN, COND, GRAVE and RANGE, and the promises 11 to 14. */
public final class LawEdgeTest {
    private static final int BAD = -1, NONE = -3;
    private static final int MIN = Integer.MIN_VALUE, MAX = Integer.MAX_VALUE;
    private static PenaltyGrid g;

    public static void main(String[] args) {
        inForceFromItsDayOn();
        backLooksBehindThatDay();
        backReadOnJOrAhead();
        theLatestSuch();
        lawOfADeed();
        latestLineThatNamesIt();
        oldIsTheLatest();
        refusedCases();
        termPassedAheadOfItsDay();
        termStandsAsKnown();
        oldYearsAhead();
        otherDeedsOfThePerson();
        eachDeedOnce();
        oftenIsPointsBy3();
        factsAsKnownAtK();
        youngBelow18();
        ageOnTheDeedsDay();
        comparisons();
        eachOneIsTakenAlike();
        graveAtLeast0AtMost4();
        rangeOfTheLatestLine();
        rangeOfAGraveAndOften();
        Check.end();
    }

    private static void about(String sentence) {
        Check.about(sentence);
        begin();
    }

    /** A new object with a person of 20 years. */
    private static void begin() {
        g = new PenaltyGrid();
        g.person(20, 0);
    }

    private static void due(String call, long got, long want) {
        Check.due(call, got, want);
    }

    private static int read(String text) {
        return Check.read(g, text);
    }

    private static void inForceFromItsDayOn() {
        about("a LAW that was read on a DAY is in force from it on, till the next");
        g.days(10);
        read("old 1;");
        g.days(10);
        read("old 2;");
        g.days(10);
        int[] days = {0, 9, 10, 11, 19, 20, 21, 30};
        int[] want = {NONE, NONE, 0, 0, 0, 1, 1, 1};
        for (int i = 0; i < days.length; i++) {
            g.deed(0, 0, days[i]);
            due("law of a deed on " + days[i], g.law(i, days[i]), want[i]);
            due("law of a deed on " + days[i] + ", judged now", g.law(i, 30), want[i]);
            due("law of a deed on " + days[i] + ", judged behind now", g.law(i, 9999), want[i]);
        }
        about("a LAW that was read on a DAY: the later one of a DAY");
        read("old 3;");
        read("old 4;");
        g.deed(0, 0, 0);
        g.deed(0, 0, 0);
        due("of two", g.law(1, 0), 1);
    }

    private static void backLooksBehindThatDay() {
        about("if one that was read behind that DAY, and on j or ahead, has a back: behind that DAY");
        g.days(10);
        read("old 1;back;");
        read("old 1;");
        g.days(10);
        g.deed(0, 0, 9);
        g.deed(0, 0, 10);
        g.deed(0, 0, 11);
        due("the deed the day ahead: it looks back", g.law(0, 20), 0);
        due("the deed on its day: it doesn't, the later one is in force", g.law(1, 20), 1);
        due("the deed the day behind", g.law(2, 20), 1);
        due("the deed the day ahead, judged on it", g.law(0, 9), NONE);
    }

    private static void backReadOnJOrAhead() {
        about("if one that was read behind that DAY, and on j or ahead, has a back: on j or ahead");
        read("old 1;");
        g.deed(0, 0, 0);
        g.days(10);
        read("back;");
        due("judged the day ahead", g.law(0, 9), 0);
        due("judged on its day", g.law(0, 10), 1);
        due("judged the day behind", g.law(0, 11), 1);
        due("judged on the last day", g.law(0, 9999), 1);
        due("judged on the deed's day", g.law(0, 0), 0);
    }

    private static void theLatestSuch() {
        about("the latest such. None: no LAW");
        g.deed(0, 0, 0);
        due("no law", g.law(0, 0), NONE);
        due("no law, judged later", g.law(0, 9999), NONE);
        g.days(1);
        read("old 1;");
        due("read behind the deed", g.law(0, 1), NONE);
        read("back;");
        read("old 1;");
        due("one of a day has a back", g.law(0, 1), 1);
        g.days(1);
        read("back;");
        read("old 1;");
        due("the latest, judged ahead", g.law(0, 1), 1);
        due("the latest", g.law(0, 2), 3);
        read("back;");
        due("the latest of a day", g.law(0, 2), 5);
        due("the latest, judged ahead", g.law(0, 1), 1);
    }

    private static void lawOfADeed() {
        about("THE LAW of a DEED judged on a DAY (not ahead of the DEED's). BAD; NONE");
        g.days(10);
        g.deed(0, 0, 5);
        g.deed(0, 0, 10);
        due("judged the day ahead, no law", g.law(0, 4), BAD);
        due("judged on its day, no law", g.law(0, 5), NONE);
        due("judged on day 0, no law", g.law(1, 0), BAD);
        int[] none = {MIN, -1, 2, MAX};
        for (int deed : none) due("law of " + deed, g.law(deed, 10), BAD);
        int[] days = {MIN, -1, 10000, MAX};
        for (int day : days) due("judged on " + day, g.law(0, day), BAD);
        read("old 1;");
        due("judged the day ahead", g.law(1, 9), BAD);
        due("judged on its day", g.law(1, 10), 0);
        due("judged on the last day", g.law(1, 9999), 0);
    }

    private static void latestLineThatNamesIt() {
        about("a KIND's grave and points are those of the latest LINE that names it (0 without)");
        read("grave 0 1;grave 1 2;grave 0 3;grave 5 4;grave 5 0;points 0 1;points 1 2;points 0 9;points 5 8;points 5 0;grave 1 1;");
        int[] graves = {3, 1, 0, 0, 0, 0};
        for (int kind = 0; kind < 6; kind++) {
            g.deed(0, kind, 0);
            g.term(kind, 0, 0, 0);
            due("grave of kind " + kind, g.grave(kind, 0, 0), graves[kind]);
        }
        int[] points = {9, 2, 0, 0, 0, 0};
        g.days(1);
        g.deed(0, 3, 1);
        for (int kind = 5; kind >= 0; kind--) {
            int all = g.points(6, 0, 1);
            g.appeal(kind);
            due("points of kind " + kind, all - g.points(6, 0, 1), points[kind]);
        }
    }

    private static void oldIsTheLatest() {
        about("old is the latest (90 without)");
        g.deed(0, 0, 0);
        g.term(0, 0, 0, 0);
        Check.days(g, 9999);
        g.deed(0, 0, 9999);
        String[] texts = {"points 0 1;", "points 0 1;old 27;", "points 0 1;old 28;", "old 90;points 0 1;old 27;", "old 27;points 0 1;old 90;old 28;",
            "old 28;old 0;points 0 1;"};
        int[] want = {1, 0, 1, 0, 1, 0};
        for (int v = 0; v < 6; v++) {
            read(texts[v]);
            due("9999 days by '" + texts[v] + "'", g.points(1, v, 9999), want[v]);
        }
    }

    private static void refusedCases() {
        about("points, grave, range: BAD");
        due("points of none", g.points(0, 0, 0), BAD);
        due("grave of none", g.grave(0, 0, 0), BAD);
        due("range of none", g.range(0, 0, 0), BAD);
        for (int i = 0; i < 3; i++) g.deed(0, 0, 0);
        due("points by none", g.points(0, 0, 0), BAD);
        due("grave by none", g.grave(0, 0, 0), BAD);
        due("range by none", g.range(0, 0, 0), BAD);
        read("old 1;");
        read("old 1;");
        int[] deeds = {MIN, -1, 3, 16, MAX};
        for (int deed : deeds) {
            due("points of " + deed, g.points(deed, 0, 0), BAD);
            due("grave of " + deed, g.grave(deed, 0, 0), BAD);
            due("range of " + deed, g.range(deed, 0, 0), BAD);
        }
        int[] laws = {MIN, -1, 2, 6, MAX};
        for (int v : laws) {
            due("points by " + v, g.points(0, v, 0), BAD);
            due("grave by " + v, g.grave(0, v, 0), BAD);
            due("range by " + v, g.range(0, v, 0), BAD);
        }
        due("points of the last by the last", g.points(2, 1, 0), 0);
        due("grave of the last by the last", g.grave(2, 1, 0), 0);
        due("range of the last by the last", g.range(2, 1, 0), NONE);
    }

    private static void termPassedAheadOfItsDay() {
        about("for which a TERM was passed ahead of this DEED's DAY");
        read("points 0 5;");
        g.days(10);
        g.deed(0, 0, 0);
        g.term(0, 0, 0, 0);
        g.days(5);
        int[] days = {9, 10, 11, 15};
        int[] want = {0, 0, 5, 5};
        for (int i = 0; i < 4; i++) {
            g.deed(0, 0, days[i]);
            due("points of a deed on " + days[i], g.points(i + 1, 0, 15), want[i]);
        }
        g.days(1);
        g.term(1, 0, 0, 0);
        due("another's term, passed later", g.points(4, 0, 16), 5);
    }

    private static void termStandsAsKnown() {
        about("that stands as KNOWN at k: passed on k or ahead, and not unwound on k or ahead");
        read("points 0 5;");
        g.days(10);
        g.deed(0, 0, 0);
        g.term(0, 0, 0, 0);
        g.days(10);
        g.deed(0, 0, 20);
        g.appeal(0);
        int[][] want = {{0, 0}, {9, 0}, {10, 5}, {19, 5}, {20, 0}, {9999, 0}};
        for (int[] row : want) due("points as known at " + row[0], g.points(1, 0, row[0]), row[1]);
    }

    private static void oldYearsAhead() {
        about("whose own DAY isn't more than old YEARS ahead of this one's");
        g.deed(0, 0, 0);
        g.term(0, 0, 0, 0);
        Check.days(g, 9800);
        String[] laws = {"points 0 1;old 0;", "points 0 1;old 1;", "points 0 1;old 2;", "points 0 1;old 27;"};
        int[] old = {0, 360, 720, 9720};
        for (int v = 0; v < 4; v++) read(laws[v]);
        for (int v = 1; v < 4; v++) {
            int first = g.many(2);
            for (int more = -1; more <= 1; more++) g.deed(0, 1, old[v] + more);
            due("a day less by " + laws[v], g.points(first, v, 9800), 1);
            due("so many by " + laws[v], g.points(first + 1, v, 9800), 1);
            due("a day more by " + laws[v], g.points(first + 2, v, 9800), 0);
        }
        due("old 0, a day ahead", g.points(1, 0, 9800), 0);
        about("whose own DAY isn't more than old YEARS ahead of this one's: the DAY of the DEED, not that of the TERM");
        read("points 0 1;old 1;");
        g.deed(0, 0, 0);
        g.days(300);
        g.term(0, 0, 0, 0);
        g.days(100);
        g.deed(0, 0, 360);
        g.deed(0, 0, 361);
        due("a year behind the deed", g.points(1, 0, 400), 1);
        due("a year and a day behind the deed", g.points(2, 0, 400), 0);
        about("whose own DAY isn't more than old YEARS ahead of this one's: behind DAY 0");
        Check.days(g, 4000);
        g.deed(0, 0, 3000);
        g.deed(0, 1, 3001);
        g.deed(0, 2, 3999);
        for (int i = 0; i < 3; i++) g.term(i, 0, 0, 0);
        g.days(360);
        g.deed(0, 5, 4360);
        g.deed(0, 5, 4001);
        read("points 0 1;points 1 3;points 2 5;old 3;");
        read("points 0 1;points 1 3;points 2 5;old 2;");
        due("1360, 1359 and 361 days by old 3", g.points(3, 0, 4360), 5);
        due("1360, 1359 and 361 days by old 2", g.points(3, 1, 4360), 5);
        due("1001, 1000 and 2 days by old 2", g.points(4, 1, 4360), 5);
        due("1001, 1000 and 2 days by old 3", g.points(4, 0, 4360), 9);
        read("points 0 1;points 1 3;points 2 5;old 1;");
        due("361 days by old 1", g.points(3, 2, 4360), 0);
        read("points 0 1;points 1 3;points 2 5;old 4;");
        due("1360, 1359 and 361 days by old 4", g.points(3, 3, 4360), 9);
        g.deed(0, 5, 4359);
        due("360 days by old 1", g.points(5, 2, 4360), 5);
        about("whose own DAY isn't more than old YEARS ahead of this one's: old 0");
        read("points 0 1;old 0;");
        g.deed(0, 0, 0);
        g.term(0, 0, 0, 0);
        g.days(1);
        g.deed(0, 0, 0);
        g.deed(0, 0, 1);
        due("on the same day, its term isn't passed ahead", g.points(1, 0, 1), 0);
        due("a day ahead is more than no year", g.points(2, 0, 1), 0);
    }

    private static void otherDeedsOfThePerson() {
        about("of all other DEEDS of the PERSON");
        g.person(20, 0);
        read("points 0 1;points 1 3;points 2 5;points 3 7;");
        for (int kind = 0; kind < 4; kind++) {
            g.deed(kind % 2, kind, 0);
            g.term(kind, 0, 0, 0);
        }
        g.days(1);
        g.deed(0, 5, 1);
        g.deed(1, 5, 1);
        due("of the first", g.points(4, 0, 1), 1 + 5);
        due("of the second", g.points(5, 0, 1), 3 + 7);
        due("of one whose others came on its own day", g.points(0, 0, 1), 0);
        g.term(4, 0, 0, 0);
        g.days(1);
        due("its own term doesn't count", g.points(4, 0, 2), 1 + 5);
    }

    private static void eachDeedOnce() {
        about("the points of their KIND (each DEED once)");
        read("points 0 4;");
        g.deed(0, 0, 0);
        g.term(0, 0, 0, 0);
        g.days(1);
        g.appeal(0);
        g.term(0, 0, 0, 0);
        g.days(1);
        g.appeal(1);
        g.term(0, 0, 0, 0);
        g.days(1);
        g.deed(0, 0, 3);
        for (int k = 0; k < 4; k++) due("points as known at " + k, g.points(1, 0, k), 4);
        g.appeal(2);
        due("unwound", g.points(1, 0, 3), 0);
        due("as it was known", g.points(1, 0, 2), 4);
        about("the points of their KIND: of fifteen other DEEDS");
        read("points 0 9;");
        for (int i = 0; i < 15; i++) {
            g.deed(0, 0, 0);
            g.term(i, 0, 0, 0);
        }
        g.days(1);
        g.deed(0, 0, 1);
        due("points", g.points(15, 0, 1), 135);
    }

    private static void oftenIsPointsBy3() {
        about("OFTEN: POINTS by 3, cut, 3 at most");
        for (int points = 0; points <= 18; points++) {
            begin();
            int first = Math.min(points, 9);
            g.deed(0, 0, 0);
            g.deed(0, 1, 0);
            g.term(0, 0, 0, 0);
            g.term(1, 0, 0, 0);
            g.days(1);
            g.deed(0, 2, 1);
            read("points 0 " + first + ";points 1 " + (points - first) + ";range 0 0 0 to 1;range 0 1 1 to 2;range 0 2 2 to 3;range 0 3 3 to 4;");
            due("points", g.points(2, 0, 1), points);
            int often = Math.min(3, points / 3);
            due("range with points " + points, g.range(2, 0, 1), 1000 * often + often + 1);
        }
    }

    private static void factsAsKnownAtK() {
        about("COND: FACTS as KNOWN at k; pleaded");
        g.days(5);
        g.deed(0, 0, 0);
        g.finding(0, 15, true);
        String[] words = {"weapon", "hurt", "helped", "gave", "pleaded"};
        for (int v = 0; v < 5; v++) {
            read("up 1 if " + words[v] + ";down 1 if not " + words[v] + ";grave 0 2;");
            due(words[v] + " as known ahead", g.grave(0, v, 4), 1);
            due(words[v] + " as known on its day", g.grave(0, v, 5), 3);
            due(words[v] + " as known behind now", g.grave(0, v, 9999), 3);
        }
        g.finding(0, 0, false);
        for (int v = 0; v < 5; v++) due("no " + words[v] + " by the later one", g.grave(0, v, 5), 1);
        begin();
        g.deed(0, 0, 0);
        read("up 1 if pleaded;up 2 if gave;");
        due("without a finding", g.grave(0, 0, 0), 0);
        g.finding(0, 0, true);
        due("pleaded without facts", g.grave(0, 0, 0), 1);
        g.finding(0, 8, false);
        due("facts, not pleaded", g.grave(0, 0, 0), 2);
    }

    private static void youngBelow18() {
        about("young: AGE on the DEED's DAY below 18");
        g.person(17, 359);
        g.person(18, 0);
        g.person(17, 0);
        read("up 1 if young;");
        g.deed(1, 0, 0);
        g.deed(2, 0, 0);
        Check.days(g, 360);
        g.deed(1, 0, 1);
        g.deed(3, 0, 359);
        g.deed(3, 0, 360);
        int[] want = {1, 0, 0, 1, 0};
        for (int i = 0; i < 5; i++) {
            due("young " + i + " as known then", g.grave(i, 0, 0), want[i]);
            due("young " + i + " as known now", g.grave(i, 0, 360), want[i]);
            g.shelf(0, 0, i);
            due("taken for a young deed " + i, g.taken(0, 2), want[i] == 1 ? i : -13);
        }
    }

    private static void ageOnTheDeedsDay() {
        about("age: AGE on the DEED's DAY; kind: its KIND; points: POINTS");
        Check.days(g, 720);
        g.deed(0, 4, 359);
        g.deed(0, 5, 360);
        read("up 1 if age = 20;up 2 if age = 21;");
        due("age 20", g.grave(0, 0, 720), 1);
        due("age 21", g.grave(1, 0, 0), 2);
        read("up 1 if kind = 4;up 2 if kind = 5;");
        due("kind 4", g.grave(0, 1, 0), 1);
        due("kind 5", g.grave(1, 1, 0), 2);
        g.term(0, 0, 0, 0);
        g.days(1);
        g.deed(0, 0, 721);
        read("points 4 7;up 1 if points = 7;up 2 if points = 0;");
        due("points 7", g.grave(2, 2, 720), 1);
        due("points as known ahead", g.grave(2, 2, 719), 2);
    }

    private static void comparisons() {
        about("SIGN: < | = | >");
        String[] right = {"kind<4", "kind=3", "kind>2", "0=0", "999>998", "998<999", "kind+kind=6", "kind+1+2>5", "1+age<kind+19",
            "kind+age=23", "points=0", "points<1"};
        for (String cond : right) condIs(cond, 1);
        String[] wrong = {"kind<2", "kind<3", "kind=2", "kind=4", "kind>3", "kind>4", "0<0", "0>0", "998>999", "999<998", "kind+1+2>6",
            "1+age<kind+18", "points>0"};
        for (String cond : wrong) condIs(cond, 0);
        about("COND: ALL { or ALL }, ALL: ONE { and ONE }, ONE: { not }");
        String[] holding = {"1=1 or 1=2", "1=2 or 1=1", "1=1 or 1=1", "1=1 and 1=1", "not not 1=1", "not 1=2", "not 1=2 or 1=1", "not (1=2 and 1=2)",
            "1=1 or 1=1 and 1=2", "1=2 and 1=2 or 1=1", "1=2 and (1=1 or 1=1) or 1=1", "not 1=1 or 1=1", "not not not 1=2", "not (not (1=1))"};
        for (String cond : holding) condIs(cond, 1);
        String[] notHolding = {"1=1 and 1=2", "1=2 and 1=1", "1=2 or 1=2", "not 1=1", "not not not 1=1", "not 1=2 and 1=2", "(1=1 or 1=1) and 1=2",
            "1=2 and (1=2 or 1=1)", "not (1=1 or 1=2)", "1=1 and (1=1 and (1=1 and (1=1 and 1=2)))"};
        for (String cond : notHolding) condIs(cond, 0);
    }

    private static void eachOneIsTakenAlike() {
        about("COND: ALL { or ALL }, ALL: ONE { and ONE }, ONE: { not }, of each sort of ONE");
        String[] holding = {"weapon", "helped", "pleaded", "kind<4", "kind=3", "kind>2", "(weapon)", "not hurt", "not kind>3"};
        String[] notHolding = {"hurt", "gave", "young", "kind<3", "kind=4", "kind>3", "(gave)", "not weapon", "not kind>2"};
        for (String yes : holding) {
            gravesAre(1, yes, "not not " + yes, yes + " or young", "young or " + yes);
            gravesAre(0, "not " + yes, yes + " and young", "young and " + yes, "not (" + yes + ")");
            for (String other : holding) gravesAre(1, yes + " and " + other, yes + " or " + other, "(" + yes + ") and (" + other + ")");
            for (String no : notHolding) {
                gravesAre(1, yes + " or " + no, no + " or " + yes, "not (" + yes + " and " + no + ")", "not " + no + " and " + yes);
                gravesAre(0, yes + " and " + no, no + " and " + yes, "not (" + yes + " or " + no + ")", "not " + yes + " or " + no);
            }
        }
        for (String no : notHolding) {
            gravesAre(0, no, "not not " + no, no + " and weapon", "weapon and " + no);
            gravesAre(1, "not " + no, no + " or weapon", "weapon or " + no, "not (" + no + ")");
            for (String other : notHolding) gravesAre(0, no + " or " + other, no + " and " + other, "(" + no + ") or (" + other + ")");
        }
    }

    /** The GRAVE of a DEED of KIND 3 with a weapon, that helped, and was pleaded, by a LAW with one LINE. */
    private static void gravesAre(int want, String... conds) {
        for (String cond : conds) {
            begin();
            g.deed(0, 3, 0);
            g.finding(0, 5, true);
            due("read of up 1 if " + cond, read("up 1 if " + cond + ";"), 0);
            due("grave: up 1 if " + cond, g.grave(0, 0, 0), want);
        }
    }

    private static void condIs(String cond, int want) {
        begin();
        g.deed(0, 3, 0);
        read("up 1 if " + cond + ";");
        due(cond, g.grave(0, 0, 0), want);
        g.days(1);
        read("beside if " + cond + ";");
        g.deed(0, 3, 1);
        g.deed(0, 3, 1);
        g.term(1, 0, 1, 0);
        g.term(2, 0, 1, 0);
        g.prove(0);
        due("beside: " + cond, g.row(1, 1), want == 1 ? 1 : 31);
    }

    private static void graveAtLeast0AtMost4() {
        about("GRAVE: 0 at least, 4 at most");
        String[] texts = {"grave 0 4;", "grave 0 5;", "grave 0 9;", "grave 0 4;up 0 if 1=1;", "grave 0 4;up 1 if 1=1;", "grave 0 3;up 1 if 1=1;",
            "down 1 if 1=1;", "grave 0 1;down 1 if 1=1;", "grave 0 1;down 2 if 1=1;", "grave 0 1;down 0 if 1=1;",
            "grave 0 9;down 4 if 1=1;", "grave 0 9;down 4 if 1=1;down 2 if 1=1;", "grave 0 0;down 4 if 1=1;up 4 if 1=1;up 1 if 1=1;",
            "grave 0 4;up 4 if 1=1;down 4 if 1=1;down 1 if 1=1;", "up 4 if 1=1;up 4 if 1=1;", "up 4 if 1=2;up 3 if 1=1;up 4 if 1=2;"};
        int[] want = {4, 4, 4, 4, 4, 4, 0, 0, 0, 1, 4, 3, 1, 3, 4, 3};
        for (int i = 0; i < texts.length; i++) {
            begin();
            g.deed(0, 0, 0);
            read(texts[i]);
            due("grave by '" + texts[i] + "'", g.grave(0, 0, 0), want[i]);
        }
        about("GRAVE: eleven LINES up, eleven down");
        g.deed(0, 0, 0);
        read("grave 0 9;" + "down 4 if 1=1;".repeat(11));
        due("9 less 44", g.grave(0, 0, 0), 0);
        read("grave 0 9;" + "up 4 if 1=1;".repeat(11));
        due("9 and 44", g.grave(0, 1, 0), 4);
        read("grave 0 9;" + "up 4 if 1=1;down 4 if 1=1;".repeat(5) + "down 4 if 1=1;");
        due("9 less 4", g.grave(0, 2, 0), 4);
        read("grave 0 9;" + "up 2 if 1=1;down 4 if 1=1;".repeat(5) + "up 4 if 1=1;");
        due("9, less 10, and 4", g.grave(0, 3, 0), 3);
    }

    private static void rangeOfTheLatestLine() {
        about("RANGE: that of the latest range LINE for this GRAVE and OFTEN; none, if there is none");
        g.deed(0, 0, 0);
        String[] texts = {"range 0 0 1 to 2;range 0 0 3 to 4;", "range 0 0 3 to 4;range 1 0 5 to 6;range 0 1 7 to 8;", "range 0 0 0 to 0;",
            "range 0 0 240 to 240;", "range 0 0 0 to 240;", "range 1 0 1 to 2;range 0 1 1 to 2;range 4 0 1 to 2;range 0 3 1 to 2;"};
        int[] want = {3004, 3004, 0, 240240, 240, NONE};
        for (int v = 0; v < 6; v++) {
            read(texts[v]);
            due("range by '" + texts[v] + "'", g.range(0, v, 0), want[v]);
        }
    }

    private static void rangeOfAGraveAndOften() {
        about("RANGE: for each GRAVE and OFTEN");
        for (int grave = 0; grave < 5; grave++) {
            for (int often = 0; often < 4; often++) {
                begin();
                g.deed(0, 0, 0);
                g.term(0, 0, 0, 0);
                g.days(1);
                g.deed(0, 1, 1);
                read("grave 1 " + grave + ";points 0 " + 3 * often + ";range " + grave + " " + often + " 7 to 8;");
                due("range of " + grave + " " + often, g.range(1, 0, 1), 7008);
                due("range of the other", g.range(0, 0, 1), grave == 0 && often == 0 ? 7008 : NONE);
                read("grave 1 " + grave + ";points 0 " + 3 * often + ";range " + (grave + 1) % 5 + " " + often + " 7 to 8;range " + grave + " "
                    + (often + 1) % 4 + " 7 to 8;");
                due("no range of " + grave + " " + often, g.range(1, 1, 1), NONE);
            }
        }
    }
}
