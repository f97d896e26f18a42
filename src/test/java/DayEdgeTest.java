/** The bounds that section 1 of the document's terms tells, and the promises 2 to 7: days, persons, deeds, findings. */
public final class DayEdgeTest {
    private static final int BAD = -1, FULL = -2, NONE = -3, STATE = -4;
    private static final int MIN = Integer.MIN_VALUE, MAX = Integer.MAX_VALUE;
    private static PenaltyGrid g;

    public static void main(String[] args) {
        constants();
        daysAreFrom0To9999();
        nowIs0AtFirst();
        daysGoBy();
        nowIs9999AtMost();
        aMonthIs30Days();
        aYearIs360Days();
        eightPersons();
        bornYears();
        bornDays();
        ageIsInWholeYears();
        ageOfAPerson();
        sixteenDeeds();
        deedOfAPerson();
        deedKinds();
        deedNotBehindNow();
        deedIsWithoutFactsAtFirst();
        factsAreBits();
        twentyFourFindings();
        findingOfADeed();
        findingFacts();
        findingIsKnownFromNowOn();
        latestFindingThatWasKnown();
        deedOfWhat();
        Check.end();
    }

    private static void about(String sentence) {
        Check.about(sentence);
        g = new PenaltyGrid();
    }

    private static void due(String call, long got, long want) {
        Check.due(call, got, want);
    }

    private static void constants() {
        about("BAD (-1), FULL (-2), NONE (-3), STATE (-4)");
        due("BAD", PenaltyGrid.BAD, BAD);
        due("FULL", PenaltyGrid.FULL, FULL);
        due("NONE", PenaltyGrid.NONE, NONE);
        due("STATE", PenaltyGrid.STATE, STATE);
    }

    private static void daysAreFrom0To9999() {
        about("DAYS are 0 to 9999");
        g.person(20, 0);
        g.deed(0, 0, 0);
        Check.read(g, "range 0 0 1 to 2;");
        g.deed(0, 0, 0);
        g.term(1, 0, 1, 0);
        int[] outside = {MIN, -1, 10000, MAX};
        for (int day : outside) {
            due("age on " + day, g.age(0, day), BAD);
            due("deedOf known at " + day, g.deedOf(0, day, 0), BAD);
            due("law judged on " + day, g.law(0, day), BAD);
            due("points known at " + day, g.points(0, 0, day), BAD);
            due("grave known at " + day, g.grave(0, 0, day), BAD);
            due("range known at " + day, g.range(0, 0, day), BAD);
            due("amiss known at " + day, g.amiss(day), BAD);
            due("credit known at " + day, g.credit(0, day), BAD);
            due("release known at " + day, g.release(0, day), BAD);
            due("beds on " + day, g.beds(day, 0), BAD);
            due("beds known at " + day, g.beds(0, day), BAD);
            due("spread known at " + day, g.spread(0, day, 0), BAD);
            due("like known at " + day, g.like(0, day), BAD);
        }
        for (int day = 0; day <= 9999; day += 9999) {
            due("age on " + day, g.age(0, day), day == 0 ? 20 : 47);
            due("deedOf known at " + day, g.deedOf(0, day, 0), 0);
            due("law judged on " + day, g.law(0, day), 0);
            due("points known at " + day, g.points(0, 0, day), 0);
            due("grave known at " + day, g.grave(0, 0, day), 0);
            due("range known at " + day, g.range(0, 0, day), 1002);
            due("amiss known at " + day, g.amiss(day), 0);
            due("credit known at " + day, g.credit(0, day), 0);
            due("release known at " + day, g.release(0, day), 30);
            due("beds on " + day, g.beds(day, 0), day == 0 ? 1 : 0);
            due("beds known at " + day, g.beds(0, day), 1);
            due("spread known at " + day, g.spread(0, day, 1), 0);
            due("like known at " + day, g.like(0, day), 1);
        }
    }

    private static void nowIs0AtFirst() {
        about("NOW is one (0 at first)");
        due("now", g.many(0), 0);
        g.person(20, 0);
        due("deed on day 1", g.deed(0, 0, 1), BAD);
        due("deed on day 0", g.deed(0, 0, 0), 0);
        due("held to day 1", g.held(0, 0, 1), BAD);
        due("held to day 0", g.held(0, 0, 0), 1);
    }

    private static void daysGoBy() {
        about("n DAYS (1 to 2000) go by: NOW. BAD");
        int[] wrong = {MIN, -1, 0, 2001, MAX};
        for (int n : wrong) due("days " + n, g.days(n), BAD);
        due("now is as it was", g.many(0), 0);
        due("days 1", g.days(1), 1);
        due("days 2000", g.days(2000), 2001);
        due("now", g.many(0), 2001);
    }

    private static void nowIs9999AtMost() {
        about("STATE: it would be above 9999");
        Check.days(g, 9998);
        due("days 2", g.days(2), STATE);
        due("days 2000", g.days(2000), STATE);
        due("days 2001", g.days(2001), BAD);
        due("now is as it was", g.many(0), 9998);
        due("days 1", g.days(1), 9999);
        due("days 1 more", g.days(1), STATE);
        due("days 0", g.days(0), BAD);
        due("now", g.many(0), 9999);
        about("STATE: it would be above 9999 (by many at once)");
        Check.days(g, 8000);
        due("days 2000", g.days(2000), STATE);
        due("days 1999", g.days(1999), 9999);
    }

    private static void aMonthIs30Days() {
        about("A MONTH is 30 DAYS");
        g.person(20, 0);
        int[] months = {0, 1, 2, 239, 240};
        for (int i = 0; i < months.length; i++) {
            g.deed(0, 0, 0);
            g.term(i, 0, months[i], 0);
            due("release behind " + months[i] + " months", g.release(0, 0), 30 * months[i]);
            g.appeal(i);
        }
    }

    private static void aYearIs360Days() {
        about("a YEAR 360");
        g.person(1, 0);
        due("age on day 359", g.age(0, 359), 1);
        due("age on day 360", g.age(0, 360), 2);
        due("age on day 719", g.age(0, 719), 2);
        due("age on day 720", g.age(0, 720), 3);
    }

    private static void eightPersons() {
        about("PERSONS, 8 at most, numbered as they come");
        due("person 0 of none", g.age(0, 0), BAD);
        for (int i = 0; i < 8; i++) {
            due("person", g.person(i, 0), i);
            due("persons", g.many(1), i + 1);
            due("the one behind it", g.age(i + 1, 0), BAD);
        }
        due("the ninth", g.person(9, 0), FULL);
        due("the ninth again", g.person(0, 0), FULL);
        due("the ninth, years not as told", g.person(91, 0), BAD);
        due("the ninth, days not as told", g.person(0, 360), BAD);
        due("persons", g.many(1), 8);
        for (int i = 0; i < 8; i++) due("age of " + i, g.age(i, 0), i);
        due("age of 8", g.age(8, 0), BAD);
    }

    private static void bornYears() {
        about("BORN so many YEARS (0 to 90)");
        int[] wrong = {MIN, -1, 91, MAX};
        for (int years : wrong) due("years " + years, g.person(years, 0), BAD);
        due("persons", g.many(1), 0);
        due("years 0", g.person(0, 0), 0);
        due("years 90", g.person(90, 0), 1);
        due("age of the first", g.age(0, 0), 0);
        due("age of the second", g.age(1, 0), 90);
    }

    private static void bornDays() {
        about("so many DAYS (0 to 359) ahead of DAY 0");
        int[] wrong = {MIN, -1, 360, MAX};
        for (int days : wrong) due("days " + days, g.person(0, days), BAD);
        due("persons", g.many(1), 0);
        due("days 0", g.person(5, 0), 0);
        due("days 359", g.person(5, 359), 1);
        due("age of the first on day 0", g.age(0, 0), 5);
        due("age of the second on day 0", g.age(1, 0), 5);
        due("age of the first on day 1", g.age(0, 1), 5);
        due("age of the second on day 1", g.age(1, 1), 6);
    }

    private static void ageIsInWholeYears() {
        about("AGE on a DAY: whole YEARS since they were BORN");
        g.person(0, 0);
        g.person(0, 1);
        g.person(90, 359);
        due("born on day 0, on it", g.age(0, 0), 0);
        due("born on day 0, on day 359", g.age(0, 359), 0);
        due("born on day 0, on day 360", g.age(0, 360), 1);
        due("born the day ahead, on day 358", g.age(1, 358), 0);
        due("born the day ahead, on day 359", g.age(1, 359), 1);
        due("the oldest on day 0", g.age(2, 0), 90);
        due("the oldest on day 1", g.age(2, 1), 91);
        due("the oldest on day 9999", g.age(2, 9999), 118);
        due("the youngest on day 9999", g.age(0, 9999), 27);
        g.days(100);
        due("a day behind now", g.age(0, 360), 1);
        due("a day ahead of now", g.age(0, 0), 0);
    }

    private static void ageOfAPerson() {
        about("AGE of a PERSON: BAD");
        g.person(3, 0);
        g.person(4, 0);
        int[] wrong = {MIN, -1, 2, MAX};
        for (int person : wrong) due("age of " + person, g.age(person, 0), BAD);
        due("age of the last", g.age(1, 0), 4);
    }

    private static void sixteenDeeds() {
        about("DEEDS, 16 at most, numbered as they come");
        g.person(20, 0);
        for (int i = 0; i < 16; i++) {
            due("the deed that isn't there yet", g.deedOf(i, 0, 1), BAD);
            due("deed", g.deed(0, i % 6, 0), i);
            due("deeds", g.many(2), i + 1);
        }
        due("deed 17", g.deed(0, 5, 0), FULL);
        due("deed 17, kind not as told", g.deed(0, 6, 0), BAD);
        due("deed 17, of none", g.deed(1, 0, 0), BAD);
        due("deed 17, behind now", g.deed(0, 0, 1), BAD);
        due("deeds", g.many(2), 16);
        for (int i = 0; i < 16; i++) due("kind of " + i, g.deedOf(i, 0, 1), i % 6);
        due("kind of 16", g.deedOf(16, 0, 1), BAD);
    }

    private static void deedOfAPerson() {
        about("DEEDS: of a PERSON");
        due("without persons", g.deed(0, 0, 0), BAD);
        for (int i = 0; i < 8; i++) g.person(20, 0);
        int[] wrong = {MIN, -1, 8, MAX};
        for (int person : wrong) due("deed of " + person, g.deed(person, 0, 0), BAD);
        due("deeds", g.many(2), 0);
        due("deed of the first", g.deed(0, 0, 0), 0);
        due("deed of the last", g.deed(7, 0, 0), 1);
        due("its person", g.deedOf(0, 0, 0), 0);
        due("its person", g.deedOf(1, 0, 0), 7);
    }

    private static void deedKinds() {
        about("a KIND (0 to 5)");
        g.person(20, 0);
        int[] wrong = {MIN, -1, 6, MAX};
        for (int kind : wrong) due("deed of kind " + kind, g.deed(0, kind, 0), BAD);
        due("deeds", g.many(2), 0);
        for (int kind = 0; kind < 6; kind++) {
            due("deed", g.deed(0, kind, 0), kind);
            due("its kind", g.deedOf(kind, 0, 1), kind);
        }
    }

    private static void deedNotBehindNow() {
        about("on a DAY (not behind NOW)");
        g.person(20, 0);
        g.days(7);
        int[] wrong = {MIN, -1, 8, 9999, 10000, MAX};
        for (int day : wrong) due("deed on " + day, g.deed(0, 0, day), BAD);
        due("deeds", g.many(2), 0);
        due("on day 0", g.deed(0, 0, 0), 0);
        due("now", g.deed(0, 0, 7), 1);
        due("its day", g.deedOf(0, 0, 2), 0);
        due("its day", g.deedOf(1, 0, 2), 7);
        g.days(1);
        due("the next day", g.deed(0, 0, 8), 2);
        Check.days(g, 9991);
        due("on the last day", g.deed(0, 0, 9999), 3);
        due("behind the last day", g.deed(0, 0, 10000), BAD);
        due("the last day", g.deedOf(3, 0, 2), 9999);
    }

    private static void deedIsWithoutFactsAtFirst() {
        about("at first without FACTS and not pleaded");
        g.person(20, 0);
        g.deed(0, 3, 0);
        int[] want = {0, 3, 0, 0, 0, NONE};
        for (int what = 0; what < 6; what++) {
            due("what " + what + " at 0", g.deedOf(0, 0, what), want[what]);
            due("what " + what + " at 9999", g.deedOf(0, 9999, what), want[what]);
        }
    }

    private static void factsAreBits() {
        about("FACTS are bits: 1 weapon, 2 hurt, 4 helped, 8 gave");
        g.person(20, 0);
        g.deed(0, 0, 0);
        Check.read(g, "up 1 if weapon;");
        Check.read(g, "up 1 if hurt;");
        Check.read(g, "up 1 if helped;");
        Check.read(g, "up 1 if gave;");
        for (int facts = 0; facts < 16; facts++) {
            g.finding(0, facts, false);
            due("facts", g.deedOf(0, 0, 3), facts);
            for (int v = 0; v < 4; v++) due("fact " + v + " of " + facts, g.grave(0, v, 0), facts >> v & 1);
        }
    }

    private static void twentyFourFindings() {
        about("FINDINGS, 24 at most, numbered as they come");
        g.person(20, 0);
        g.deed(0, 0, 0);
        g.deed(0, 0, 0);
        for (int i = 0; i < 24; i++) {
            due("finding", g.finding(0, i % 16, i % 2 == 1), i);
            due("findings", g.many(3), i + 1);
            due("facts", g.deedOf(0, 0, 3), i % 16);
            due("pleaded", g.deedOf(0, 0, 4), i % 2);
        }
        due("finding 25", g.finding(0, 0, false), FULL);
        due("finding 25 of the other deed", g.finding(1, 0, false), FULL);
        due("finding 25, of none", g.finding(2, 0, false), BAD);
        due("finding 25, facts not as told", g.finding(0, 16, false), BAD);
        due("findings", g.many(3), 24);
        due("facts of the latest", g.deedOf(0, 0, 3), 7);
        due("the latest pleaded", g.deedOf(0, 0, 4), 1);
        due("facts of the other deed", g.deedOf(1, 0, 3), 0);
    }

    private static void findingOfADeed() {
        about("FINDINGS: of a DEED");
        g.person(20, 0);
        due("without deeds", g.finding(0, 0, false), BAD);
        for (int i = 0; i < 16; i++) g.deed(0, 0, 0);
        int[] wrong = {MIN, -1, 16, MAX};
        for (int deed : wrong) due("finding of " + deed, g.finding(deed, 0, false), BAD);
        due("findings", g.many(3), 0);
        due("of the first", g.finding(0, 5, false), 0);
        due("of the last", g.finding(15, 6, true), 1);
        due("facts of the first", g.deedOf(0, 0, 3), 5);
        due("facts of one between", g.deedOf(7, 0, 3), 0);
        due("facts of the last", g.deedOf(15, 0, 3), 6);
    }

    private static void findingFacts() {
        about("its FACTS (0 to 15)");
        g.person(20, 0);
        g.deed(0, 0, 0);
        int[] wrong = {MIN, -1, 16, MAX};
        for (int facts : wrong) due("facts " + facts, g.finding(0, facts, false), BAD);
        due("findings", g.many(3), 0);
        due("facts 15", g.finding(0, 15, false), 0);
        due("they are", g.deedOf(0, 0, 3), 15);
        due("facts 0", g.finding(0, 0, false), 1);
        due("they are", g.deedOf(0, 0, 3), 0);
    }

    private static void findingIsKnownFromNowOn() {
        about("KNOWN from NOW on; at any DAY, one behind NOW, too");
        g.person(20, 0);
        g.days(10);
        g.deed(0, 0, 0);
        g.finding(0, 9, true);
        int[] ahead = {0, 1, 9};
        for (int k : ahead) {
            due("facts at " + k, g.deedOf(0, k, 3), 0);
            due("pleaded at " + k, g.deedOf(0, k, 4), 0);
        }
        int[] behind = {10, 11, 9999};
        for (int k : behind) {
            due("facts at " + k, g.deedOf(0, k, 3), 9);
            due("pleaded at " + k, g.deedOf(0, k, 4), 1);
        }
    }

    private static void latestFindingThatWasKnown() {
        about("the FACTS of the latest FINDING of it that was KNOWN by then (none without)");
        g.person(20, 0);
        g.deed(0, 0, 0);
        g.deed(0, 0, 0);
        g.days(10);
        g.finding(0, 1, false);
        g.days(10);
        g.finding(0, 2, true);
        g.finding(1, 4, true);
        g.finding(0, 3, false);
        g.days(10);
        g.finding(0, 8, true);
        int[][] want = {{9, 0, 0}, {10, 1, 0}, {19, 1, 0}, {20, 3, 0}, {29, 3, 0}, {30, 8, 1}, {9999, 8, 1}};
        for (int[] row : want) {
            due("facts at " + row[0], g.deedOf(0, row[0], 3), row[1]);
            due("pleaded at " + row[0], g.deedOf(0, row[0], 4), row[2]);
        }
        due("the other at 19", g.deedOf(1, 19, 3), 0);
        due("the other at 20", g.deedOf(1, 20, 3), 4);
        due("the other at 30", g.deedOf(1, 30, 3), 4);
    }

    private static void deedOfWhat() {
        about("Of a DEED as KNOWN at k: what = 0 to 5. BAD");
        due("without deeds", g.deedOf(0, 0, 0), BAD);
        g.person(20, 0);
        g.person(20, 0);
        g.deed(1, 5, 0);
        int[] wrong = {MIN, -1, 6, MAX};
        for (int what : wrong) due("what " + what, g.deedOf(0, 0, what), BAD);
        int[] none = {MIN, -1, 1, 16, MAX};
        for (int deed : none) due("deed " + deed, g.deedOf(deed, 0, 0), BAD);
        due("no term, and what not as told", g.deedOf(0, 0, 6), BAD);
        due("no term, and no day", g.deedOf(0, 10000, 5), BAD);
        int[] want = {1, 5, 0, 0, 0, NONE};
        for (int what = 0; what < 6; what++) due("what " + what, g.deedOf(0, 0, what), want[what]);
        g.term(0, 0, 0, 0);
        due("term 0", g.deedOf(0, 0, 5), 0);
    }
}
