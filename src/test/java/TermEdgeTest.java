/** The bounds that section 4 of the document's terms tells, and the promises 15 to 26: terms, what is amiss, time, rows. */
public final class TermEdgeTest {
    private static final int BAD = -1, FULL = -2, NONE = -3, STATE = -4;
    private static final int MIN = Integer.MIN_VALUE, MAX = Integer.MAX_VALUE;
    private static PenaltyGrid g;

    public static void main(String[] args) {
        sixteenTerms();
        oneThatStands();
        termOfADeed();
        termCourts();
        termMonths();
        termHow();
        firstNamedOfATerm();
        standsAsKnownAtK();
        appealUnwinds();
        amissMonths();
        amissReasons();
        amissWithoutRange();
        amissJudgedWhenPassed();
        amissAsKnownAtK();
        amissOfSixteen();
        beginsOnItsDay();
        beginsWhereTheLatestEnds();
        runsBeside();
        besideByTheLawAsPassed();
        timeAsKnownAtK();
        twelveTimesHeld();
        heldFromTo();
        creditAheadOfTheFirst();
        creditEachDayOnce();
        creditWithoutATerm();
        goodDays();
        releaseLessCreditAndGood();
        releaseOfOnesOwn();
        releaseWithoutTerms();
        bedsOnADay();
        bedsOfEightPersons();
        bedsAsKnownAtK();
        rowsOfAPerson();
        sixteenRows();
        cells();
        readerTakesRows();
        readerWantsTermsThatRise();
        readerWantsTermsThatStandNow();
        readerWantsOnePerson();
        Check.end();
    }

    private static void about(String sentence) {
        Check.about(sentence);
        begin();
    }

    private static void begin() {
        g = new PenaltyGrid();
        g.person(20, 0);
    }

    private static void deeds(int n) {
        for (int i = 0; i < n; i++) g.deed(0, 0, 0);
    }

    private static void due(String call, long got, long want) {
        Check.due(call, got, want);
    }

    private static int read(String text) {
        return Check.read(g, text);
    }

    private static void sixteenTerms() {
        about("TERMS, 16 at most, numbered as they come");
        deeds(16);
        for (int i = 0; i < 16; i++) {
            due("term", g.term(i, i % 5, i, i % 2), i);
            due("terms", g.many(5), i + 1);
        }
        g.appeal(3);
        due("term 17 for the one without", g.term(3, 0, 0, 0), FULL);
        due("terms", g.many(5), 16);
        due("terms that stand", g.many(6), 15);
        due("term of 3", g.deedOf(3, 0, 5), NONE);
        due("term of 15", g.deedOf(15, 0, 5), 15);
        about("TERMS, 16 at most: all of one DEED");
        deeds(2);
        for (int i = 0; i < 16; i++) {
            due("term", g.term(0, 0, 0, 0), i);
            g.appeal(i);
        }
        due("term 17", g.term(0, 0, 0, 0), FULL);
        due("term 17 of the other", g.term(1, 0, 0, 0), FULL);
        due("terms", g.many(5), 16);
        due("terms that stand", g.many(6), 0);
    }

    private static void oneThatStands() {
        about("for a DEED (that has none that stands); STATE: one stands");
        deeds(2);
        due("first", g.term(0, 0, 5, 0), 0);
        due("second", g.term(0, 1, 6, 1), STATE);
        due("of the other", g.term(1, 0, 0, 0), 1);
        g.days(1);
        due("second, later", g.term(0, 0, 0, 0), STATE);
        due("terms", g.many(5), 2);
        g.appeal(0);
        due("second, behind the appeal", g.term(0, 0, 7, 0), 2);
        due("third", g.term(0, 0, 0, 0), STATE);
        due("the one that stands", g.deedOf(0, 1, 5), 2);
    }

    private static void termOfADeed() {
        about("BAD: there is no such DEED");
        due("without deeds", g.term(0, 0, 0, 0), BAD);
        deeds(3);
        int[] wrong = {MIN, -1, 3, 16, MAX};
        for (int deed : wrong) due("term for " + deed, g.term(deed, 0, 0, 0), BAD);
        due("terms", g.many(5), 0);
        due("for the last", g.term(2, 0, 0, 0), 0);
        due("for the first", g.term(0, 0, 0, 0), 1);
    }

    private static void termCourts() {
        about("by a COURT (0 to 4)");
        deeds(5);
        int[] wrong = {MIN, -1, 5, MAX};
        for (int court : wrong) due("term by " + court, g.term(0, court, 0, 1), BAD);
        due("terms", g.many(5), 0);
        for (int court = 0; court < 5; court++) {
            due("term by " + court, g.term(court, court, 0, 1), court);
            due("drawn ones of it", g.spread(court, 0, 0), 1);
        }
    }

    private static void termMonths() {
        about("so many MONTHS (0 to 240)");
        deeds(2);
        int[] wrong = {MIN, -1, 241, MAX};
        for (int months : wrong) due("months " + months, g.term(0, 0, months, 0), BAD);
        due("terms", g.many(5), 0);
        due("months 0", g.term(0, 0, 0, 0), 0);
        due("it ends on its day", g.release(0, 0), 0);
        due("months 240", g.term(1, 0, 240, 0), 1);
        due("it ends", g.release(0, 0), 7200);
    }

    private static void termHow() {
        about("how: 10 times the reason (0: none; 1 to 3), and 1 if drawn, else 0; BAD: how isn't one");
        deeds(8);
        for (int how = -40; how <= 60; how++) {
            int digit = how % 10;
            if (how < 0 || how > 31 || digit > 1) due("how " + how, g.term(0, 0, 0, how), BAD);
        }
        int[] wrong = {MIN, MAX, 100, 101, 110, 256, 65536};
        for (int how : wrong) due("how " + how, g.term(0, 0, 0, how), BAD);
        due("terms", g.many(5), 0);
        read("range 0 0 5 to 6;");
        for (int i = 0; i < 8; i++) {
            due("how " + (i / 2 * 10 + i % 2), g.term(i, 0, 0, i / 2 * 10 + i % 2), i);
            due("drawn ones", g.spread(0, 0, 1), (i + 1) / 2);
            due("amiss without a reason", g.amiss(0), i == 0 ? 1 : 3);
        }
    }

    private static void firstNamedOfATerm() {
        about("BAD; STATE; FULL: the first named");
        deeds(17);
        for (int i = 0; i < 16; i++) g.term(i, 0, 0, 0);
        due("wrong, one stands, full", g.term(0, 5, 0, 0), BAD);
        due("wrong months, one stands, full", g.term(0, 0, 241, 0), BAD);
        due("wrong how, one stands, full", g.term(0, 0, 0, 2), BAD);
        due("no deed, full", g.term(16, 0, 0, 0), BAD);
        due("one stands, full", g.term(0, 0, 0, 0), STATE);
        g.appeal(0);
        due("full", g.term(0, 0, 0, 0), FULL);
        due("wrong, full", g.term(0, -1, 0, 0), BAD);
    }

    private static void standsAsKnownAtK() {
        about("As KNOWN at k a TERM stands that was passed on k or ahead, and was not unwound on k or ahead");
        deeds(2);
        g.days(10);
        g.term(0, 0, 1, 1);
        g.term(1, 0, 1, 1);
        g.days(10);
        g.appeal(0);
        g.days(10);
        g.appeal(1);
        int[] days = {0, 9, 10, 11, 19, 20, 21, 29, 30, 31, 9999};
        for (int k : days) {
            boolean first = k >= 10 && k < 20;
            boolean second = k >= 10 && k < 30;
            due("the first as known at " + k, g.deedOf(0, k, 5), first ? 0 : NONE);
            due("the second as known at " + k, g.deedOf(1, k, 5), second ? 1 : NONE);
            due("drawn ones as known at " + k, g.spread(0, k, 1), (first ? 1 : 0) + (second ? 1 : 0));
            due("amiss as known at " + k, g.amiss(k), (first ? 1 : 0) + (second ? 2 : 0));
            due("release as known at " + k, g.release(0, k), first ? 70 : second ? 40 : NONE);
        }
        about("passed and unwound on one DAY it never stands");
        deeds(1);
        g.days(5);
        g.term(0, 0, 3, 1);
        g.appeal(0);
        int[] all = {0, 4, 5, 6, 9999};
        for (int k : all) {
            due("as known at " + k, g.deedOf(0, k, 5), NONE);
            due("amiss as known at " + k, g.amiss(k), 0);
            due("release as known at " + k, g.release(0, k), NONE);
        }
        g.term(0, 0, 4, 1);
        due("the next one ahead of it", g.deedOf(0, 4, 5), NONE);
        due("the next one on its day", g.deedOf(0, 5, 5), 1);
    }

    private static void appealUnwinds() {
        about("An APPEAL unwinds a TERM: how many stand then. BAD; STATE: it doesn't stand");
        due("without terms", g.appeal(0), BAD);
        g.person(20, 0);
        deeds(2);
        g.deed(1, 0, 0);
        for (int i = 0; i < 3; i++) g.term(i, 0, 1, 0);
        int[] wrong = {MIN, -1, 3, 16, MAX};
        for (int term : wrong) due("appeal of " + term, g.appeal(term), BAD);
        due("terms that stand", g.many(6), 3);
        due("the last", g.appeal(2), 2);
        due("the last again", g.appeal(2), STATE);
        due("terms that stand", g.many(6), 2);
        g.days(1);
        due("the last again, later", g.appeal(2), STATE);
        due("the first", g.appeal(0), 1);
        due("the one between", g.appeal(1), 0);
        for (int i = 0; i < 3; i++) due("again", g.appeal(i), STATE);
        due("behind the last", g.appeal(3), BAD);
        due("it was unwound on its day, not later", g.release(1, 0), NONE);
        due("terms", g.many(5), 3);
    }

    private static void amissMonths() {
        about("AMISS: whose MONTHS are not within it");
        int[][] rows = {{10, 20, 9, 1}, {10, 20, 10, 0}, {10, 20, 15, 0}, {10, 20, 20, 0}, {10, 20, 21, 1}, {0, 0, 0, 0}, {0, 0, 1, 1}, {0, 240, 0, 0},
            {0, 240, 240, 0}, {240, 240, 239, 1}, {240, 240, 240, 0}, {5, 5, 4, 1}, {5, 5, 5, 0}, {5, 5, 6, 1}, {1, 240, 0, 1}, {0, 239, 240, 1}};
        for (int[] row : rows) {
            begin();
            deeds(1);
            read("range 0 0 " + row[0] + " to " + row[1] + ";");
            g.term(0, 0, row[2], 0);
            due(row[2] + " months, of " + row[0] + " to " + row[1], g.amiss(0), row[3]);
        }
    }

    private static void amissReasons() {
        about("AMISS: and has no reason");
        deeds(8);
        read("range 0 0 10 to 20;");
        for (int i = 0; i < 8; i++) g.term(i, 0, i < 4 ? 9 : 21, 10 * (i % 4) + i / 2 % 2);
        due("amiss", g.amiss(0), 1 | 1 << 4);
    }

    private static void amissWithoutRange() {
        about("AMISS: has no RANGE (none, if there is none, or no LAW)");
        deeds(8);
        for (int i = 0; i < 4; i++) g.term(i, 0, 0, 10 * i);
        due("no law, whatever the reason", g.amiss(0), 15);
        read("range 1 0 0 to 240;");
        g.days(1);
        for (int i = 0; i < 4; i++) g.deed(0, 0, 1);
        for (int i = 8; i < 12; i++) g.term(i, 0, 0, 10 * (i - 8));
        due("no range, whatever the reason", g.amiss(1), 255);
        due("bad -1", g.amiss(-1), BAD);
        due("bad 10000", g.amiss(10000), BAD);
        begin();
        due("no terms", g.amiss(0), 0);
    }

    private static void amissJudgedWhenPassed() {
        about("AMISS: judged on the DAY on which it was passed");
        read("range 0 0 10 to 20;");
        deeds(3);
        g.days(10);
        g.term(0, 0, 30, 0);
        read("range 0 0 30 to 40;back;");
        due("a law of the same day that looks back, read behind the term", g.amiss(10), 0);
        g.term(1, 0, 15, 0);
        due("another term of that day", g.amiss(10), 2);
        g.days(1);
        read("range 0 0 1 to 1;back;");
        due("a law that looks back, read a day behind", g.amiss(9999), 2);
        g.term(2, 0, 30, 0);
        due("a term of that day", g.amiss(11), 6);
    }

    private static void amissAsKnownAtK() {
        about("AMISS: as KNOWN at k");
        read("range 0 0 10 to 20;range 1 0 30 to 40;range 0 1 50 to 60;up 1 if weapon;points 1 3;");
        g.deed(0, 1, 0);
        g.term(0, 0, 30, 0);
        g.days(10);
        g.deed(0, 0, 10);
        g.term(1, 0, 10, 0);
        g.finding(0, 1, false);
        due("points 3 and 10 months; the first without a weapon", g.amiss(0), 1);
        due("found otherwise, as known ahead", g.amiss(9), 1);
        due("found otherwise", g.amiss(10), 2);
        g.days(10);
        g.appeal(0);
        due("unwound: no points, and it stands no more", g.amiss(20), 0);
        due("unwound, as known ahead", g.amiss(19), 2);
    }

    private static void amissOfSixteen() {
        about("AMISS TERMS as bits: sixteen");
        deeds(16);
        for (int i = 0; i < 16; i++) g.term(i, 0, 0, 0);
        due("all", g.amiss(0), 65535);
        g.appeal(0);
        g.appeal(15);
        due("all but the first and the last", g.amiss(0), 32766);
    }

    private static void rowIs(int i, int term, int begin, int end) {
        due("row " + i + ": term", g.row(i, 0), term);
        due("row " + i + ": begin", g.row(i, 1), begin);
        due("row " + i + ": end", g.row(i, 2), end);
    }

    private static void beginsOnItsDay() {
        about("each begins on the DAY on which it was passed, or, if another one ahead of it ends later");
        for (int passed = 29; passed <= 31; passed++) {
            begin();
            deeds(2);
            g.term(0, 0, 1, 0);
            g.days(passed);
            g.term(1, 0, 2, 0);
            g.prove(0);
            rowIs(0, 0, 0, 30);
            rowIs(1, 1, Math.max(passed, 30), Math.max(passed, 30) + 60);
            due("release", g.release(0, passed), Math.max(passed, 30) + 60);
            due("judge", g.judge(), 0);
        }
    }

    private static void beginsWhereTheLatestEnds() {
        about("on the DAY on which the latest of those ends; it ends 30 DAYS for each MONTH behind");
        read("beside if weapon;");
        deeds(5);
        g.finding(1, 1, false);
        g.finding(3, 1, false);
        g.term(0, 0, 10, 0);
        g.days(1);
        g.term(1, 0, 1, 0);
        g.term(2, 0, 0, 0);
        g.term(3, 0, 240, 0);
        g.term(4, 0, 1, 0);
        due("rows", g.prove(0), 5);
        rowIs(0, 0, 0, 300);
        rowIs(1, 1, 1, 31);
        rowIs(2, 2, 300, 300);
        rowIs(3, 3, 1, 7201);
        rowIs(4, 4, 7201, 7231);
        due("release", g.release(0, 1), 7231);
        due("judge", g.judge(), 0);
        altered(2, 1, 31, 3);
        g.alterRow(2, 1, 31);
        g.alterRow(2, 2, 31);
        due("a row that begins where the last of those ends", g.judge(), 3);
    }

    private static void runsBeside() {
        about("It runs beside, if the COND of some beside LINE of THE LAW of its DEED holds");
        String[] texts = {"", "beside if 1=1;", "beside if 1=2;", "beside if 1=2;beside if 1=1;beside if 1=2;", "beside if 1=2;beside if 1=2;",
            "up 1 if 1=1;down 1 if 1=1;beside if 1=2;", "back;up 1 if 1=2;beside if 1=1;"};
        int[] begins = {30, 0, 30, 0, 30, 30, 0};
        for (int i = 0; i < texts.length; i++) {
            begin();
            deeds(2);
            read(texts[i]);
            g.term(0, 0, 1, 0);
            g.term(1, 0, 2, 0);
            g.prove(0);
            due("begin by '" + texts[i] + "'", g.row(1, 1), begins[i]);
            due("release by '" + texts[i] + "'", g.release(0, 0), begins[i] + 60);
        }
        begin();
        deeds(2);
        g.term(0, 0, 1, 0);
        g.term(1, 0, 2, 0);
        g.prove(0);
        due("begin without a law", g.row(1, 1), 30);
    }

    private static void besideByTheLawAsPassed() {
        about("It runs beside by THE LAW of its DEED (judged as it was passed, as KNOWN at k)");
        deeds(4);
        g.term(0, 0, 9, 0);
        g.days(1);
        g.term(1, 0, 1, 0);
        read("beside if weapon;back;");
        g.term(2, 0, 1, 0);
        g.days(1);
        read("beside if 1=1;back;");
        g.days(1);
        read("back;");
        g.prove(0);
        rowIs(1, 1, 270, 300);
        rowIs(2, 2, 300, 330);
        g.finding(1, 1, false);
        g.finding(2, 1, false);
        g.prove(0);
        rowIs(1, 1, 1, 31);
        rowIs(2, 2, 1, 31);
        due("as known ahead of the findings", g.release(0, 2), 330);
        due("as known", g.release(0, 3), 270);
        g.term(3, 0, 1, 0);
        due("a term by the latest law", g.release(0, 3), 300);
    }

    private static void timeAsKnownAtK() {
        about("TERMS for their DEEDS that stand (and were passed by k), as they were passed");
        g.person(20, 0);
        deeds(3);
        g.deed(1, 0, 0);
        g.days(10);
        g.term(0, 0, 1, 0);
        g.term(3, 0, 100, 0);
        g.days(10);
        g.term(1, 0, 1, 0);
        g.days(10);
        g.term(2, 0, 1, 0);
        g.days(10);
        g.appeal(0);
        int[] days = {0, 9, 10, 19, 20, 29, 30, 39, 40, 9999};
        int[] want = {NONE, NONE, 40, 40, 70, 70, 100, 100, 80, 80};
        for (int i = 0; i < days.length; i++) due("release as known at " + days[i], g.release(0, days[i]), want[i]);
        due("rows", g.prove(0), 2);
        rowIs(0, 2, 20, 50);
        rowIs(1, 3, 50, 80);
    }

    private static void twelveTimesHeld() {
        about("HELD, 12 times at most; how many times are told (of all). BAD; FULL");
        g.person(20, 0);
        g.days(20);
        for (int i = 0; i < 12; i++) {
            due("held", g.held(i % 2, i, i), i + 1);
            due("times", g.many(7), i + 1);
        }
        due("the thirteenth", g.held(0, 12, 12), FULL);
        due("the thirteenth, the same again", g.held(0, 0, 0), FULL);
        due("the thirteenth, of none", g.held(2, 0, 0), BAD);
        due("the thirteenth, behind now", g.held(0, 0, 21), BAD);
        due("the thirteenth, the wrong way round", g.held(0, 2, 1), BAD);
        due("times", g.many(7), 12);
        g.deed(0, 0, 0);
        g.deed(1, 0, 0);
        g.term(0, 0, 0, 0);
        g.term(1, 0, 0, 0);
        due("credit of the first", g.credit(0, 20), 6);
        due("credit of the second", g.credit(1, 20), 6);
    }

    private static void heldFromTo() {
        about("a PERSON from a DAY to another one (not ahead of it, not behind NOW)");
        g.days(10);
        int[][] wrong = {{1, 0, 0}, {-1, 0, 0}, {MIN, 0, 0}, {MAX, 0, 0}, {8, 0, 0}, {0, -1, 5}, {0, MIN, 5}, {0, 1, 0}, {0, 10, 9}, {0, 11, 11}, {0, 0, 11},
            {0, 10, 11}, {0, 0, MAX}, {0, MAX, MAX}, {0, MAX, MIN}, {0, -1, -1}, {0, 0, -1}, {0, 5, 10000}};
        for (int[] row : wrong) due("held " + row[0] + " " + row[1] + " " + row[2], g.held(row[0], row[1], row[2]), BAD);
        due("times", g.many(7), 0);
        due("on one day", g.held(0, 3, 3), 1);
        due("on day 0", g.held(0, 0, 0), 2);
        due("now", g.held(0, 10, 10), 3);
        due("from day 0 till now", g.held(0, 0, 10), 4);
        Check.days(g, 9989);
        due("on the last day", g.held(0, 9999, 9999), 5);
        due("behind the last day", g.held(0, 9999, 10000), BAD);
    }

    private static void creditAheadOfTheFirst() {
        about("CREDIT: HELD ahead of that on which the first of these TERMS was passed (both ends, too)");
        int[][] rows = {{0, 0, 1}, {0, 9, 10}, {0, 10, 10}, {0, 20, 10}, {9, 9, 1}, {9, 10, 1}, {10, 10, 0}, {10, 20, 0}, {11, 11, 0}, {3, 5, 3}, {5, 5, 1}};
        for (int[] row : rows) {
            begin();
            deeds(2);
            g.days(10);
            g.term(0, 0, 0, 0);
            g.days(10);
            g.term(1, 0, 0, 0);
            g.held(0, row[0], row[1]);
            due("held " + row[0] + " to " + row[1], g.credit(0, 20), row[2]);
            due("held " + row[0] + " to " + row[1] + ", as known ahead of the term", g.credit(0, 9), 0);
            due("held " + row[0] + " to " + row[1] + ", as known on its day", g.credit(0, 10), row[2]);
            g.appeal(0);
            due("the first unwound", g.credit(0, 20), Math.min(row[1], 19) - row[0] + 1);
            due("the first unwound, as known ahead", g.credit(0, 19), row[2]);
        }
        about("CREDIT: a TERM that was passed on DAY 0");
        deeds(1);
        g.term(0, 0, 0, 0);
        g.held(0, 0, 0);
        due("no day is ahead", g.credit(0, 0), 0);
    }

    private static void creditEachDayOnce() {
        about("CREDIT: each DAY once");
        int[][][] all = {
            {{5, 10}, {5, 10}}, {{5, 10}, {10, 15}}, {{5, 10}, {11, 15}}, {{5, 10}, {12, 15}}, {{5, 10}, {4, 5}}, {{5, 10}, {3, 4}}, {{5, 20}, {8, 9}},
            {{8, 9}, {5, 20}}, {{5, 10}, {7, 15}, {12, 20}}, {{12, 20}, {5, 10}, {7, 15}}, {{0, 99}, {99, 100}, {100, 100}}, {{1, 1}, {3, 3}, {5, 5}, {2, 4}},
            {{0, 0}, {2, 2}, {4, 4}, {6, 6}, {8, 8}, {10, 10}, {12, 12}, {14, 14}, {16, 16}, {18, 18}, {20, 20}, {22, 22}},
            {{22, 23}, {20, 22}, {18, 20}, {16, 18}, {14, 16}, {12, 14}, {10, 12}, {8, 10}, {6, 8}, {4, 6}, {2, 4}, {0, 100}},
            {{9, 9}, {9, 9}, {9, 9}, {9, 9}, {9, 9}, {9, 9}, {9, 9}, {9, 9}, {9, 9}, {9, 9}, {9, 9}, {50, 50}},
        };
        for (int[][] times : all) {
            begin();
            g.person(20, 0);
            deeds(1);
            g.deed(1, 0, 0);
            g.days(100);
            boolean[] marked = new boolean[101];
            for (int[] time : times) {
                g.held(0, time[0], time[1]);
                for (int day = time[0]; day <= time[1]; day++) marked[day] = true;
            }
            g.term(0, 0, 0, 0);
            g.term(1, 0, 0, 0);
            int want = 0;
            for (int day = 0; day < 100; day++) want += marked[day] ? 1 : 0;
            due(times.length + " times from " + times[0][0], g.credit(0, 100), want);
            due("of another", g.credit(1, 100), 0);
        }
    }

    private static void creditWithoutATerm() {
        about("CREDIT of a PERSON as KNOWN at k (0 without a TERM). BAD");
        deeds(1);
        g.days(10);
        g.held(0, 0, 5);
        due("without a term", g.credit(0, 10), 0);
        due("without a term, at the last day", g.credit(0, 9999), 0);
        int[] wrong = {MIN, -1, 1, 8, MAX};
        for (int person : wrong) due("credit of " + person, g.credit(person, 10), BAD);
        g.term(0, 0, 0, 0);
        due("with one", g.credit(0, 10), 6);
        due("without a time held", new PenaltyGrid().credit(0, 0), BAD);
    }

    private static void goodDays() {
        about("n GOOD DAYS (1 to 99) more of a PERSON: how many then. BAD");
        due("of none", g.good(1, 5), BAD);
        int[] wrong = {MIN, -1, 0, 100, MAX};
        for (int n : wrong) due("good " + n, g.good(0, n), BAD);
        int[] none = {MIN, -1, 1, 8, MAX};
        for (int person : none) due("good of " + person, g.good(person, 1), BAD);
        due("1", g.good(0, 1), 1);
        due("99", g.good(0, 99), 100);
        about("GOOD: DAYS told of a PERSON (0 to 999 in all); STATE: it would be above 999");
        g.person(20, 0);
        for (int i = 1; i <= 9; i++) due("good", g.good(0, 99), 99 * i);
        due("891 and 99", g.good(0, 99), 990);
        due("990 and 10", g.good(0, 10), STATE);
        due("990 and 99", g.good(0, 99), STATE);
        due("990 and 100", g.good(0, 100), BAD);
        due("990 and 0", g.good(0, 0), BAD);
        due("990 and 8", g.good(0, 8), 998);
        due("998 and 2", g.good(0, 2), STATE);
        due("998 and 1", g.good(0, 1), 999);
        due("999 and 1", g.good(0, 1), STATE);
        due("999 and 0", g.good(0, 0), BAD);
        due("of the other", g.good(1, 99), 99);
        deeds(1);
        Check.days(g, 1200);
        g.term(0, 0, 100, 0);
        due("999 days less", g.release(0, 1200), 1200 + 3000 - 999);
    }

    private static void releaseLessCreditAndGood() {
        about("RELEASE: less CREDIT and GOOD; not ahead of the DAY on which the latest of them was passed");
        for (int less = 28; less <= 32; less++) {
            begin();
            deeds(1);
            g.days(100);
            g.term(0, 0, 1, 0);
            g.good(0, less);
            due("30 days less " + less + " good ones", g.release(0, 100), Math.max(100, 130 - less));
            begin();
            deeds(1);
            g.days(100);
            g.held(0, 0, less - 1);
            g.term(0, 0, 1, 0);
            due("30 days less " + less + " held", g.release(0, 100), Math.max(100, 130 - less));
            begin();
            deeds(1);
            g.days(100);
            g.held(0, 0, less - 11);
            g.good(0, 10);
            g.term(0, 0, 1, 0);
            due("30 days less " + less + " of both", g.release(0, 100), Math.max(100, 130 - less));
        }
        about("RELEASE: the latest of them was passed, not the first, not the one that ends latest");
        read("beside if weapon;");
        deeds(2);
        g.finding(1, 1, false);
        g.term(0, 0, 3, 0);
        g.days(50);
        g.term(1, 0, 1, 0);
        g.good(0, 39);
        due("90 less 39", g.release(0, 50), 51);
        g.good(0, 1);
        due("90 less 40", g.release(0, 50), 50);
        g.good(0, 1);
        due("90 less 41", g.release(0, 50), 50);
        due("as known ahead, 90 less 41", g.release(0, 49), 49);
    }

    private static void releaseOfOnesOwn() {
        about("RELEASE: not ahead of the DAY on which the latest of them was passed: of the PERSON's own TERMS");
        g.person(20, 0);
        int[] persons = {1, 0, 1};
        for (int person : persons) g.deed(person, 0, 0);
        g.term(0, 0, 1, 0);
        g.days(10);
        g.term(1, 0, 1, 0);
        g.days(10);
        g.term(2, 0, 1, 0);
        due("40", g.release(0, 20), 40);
        due("60", g.release(1, 20), 60);
        g.good(0, 99);
        due("40 less 99", g.release(0, 20), 10);
        due("60, the other's days are not its own", g.release(1, 20), 60);
        g.good(1, 99);
        due("60 less 99", g.release(1, 20), 20);
        due("as known ahead, 30 less 99", g.release(1, 19), 0);
        due("as known ahead, 40 less 99", g.release(0, 19), 10);
        due("as known ahead of its only one", g.release(0, 9), NONE);
        g.appeal(2);
        due("its latest is unwound", g.release(1, 20), 0);
    }

    private static void releaseWithoutTerms() {
        about("RELEASE: None without such TERMS. BAD; NONE");
        deeds(1);
        due("without terms", g.release(0, 0), NONE);
        int[] wrong = {MIN, -1, 1, 8, MAX};
        for (int person : wrong) due("release of " + person, g.release(person, 0), BAD);
        due("of none, and no day", g.release(1, -1), BAD);
        g.days(5);
        g.term(0, 0, 1, 0);
        due("as known the day ahead", g.release(0, 4), NONE);
        due("as known on its day", g.release(0, 5), 35);
        g.appeal(0);
        due("unwound", g.release(0, 5), NONE);
        due("as known at the last day", g.release(0, 9999), NONE);
        about("RELEASE behind the last DAY");
        deeds(16);
        Check.days(g, 9999);
        for (int i = 0; i < 16; i++) g.term(i, 0, 240, 0);
        due("16 terms of 240 months", g.release(0, 9999), 9999 + 16 * 7200);
        due("beds on the last day", g.beds(9999, 9999), 1);
        due("beds the day ahead", g.beds(9998, 9999), 0);
    }

    private static void bedsOnADay() {
        about("BEDS on a DAY: PERSONS whose first such TERM was passed on it or ahead, and whose RELEASE is behind it");
        deeds(2);
        due("without terms", g.beds(0, 0), 0);
        g.days(10);
        g.term(0, 0, 1, 0);
        g.good(0, 5);
        int[] days = {0, 9, 10, 11, 33, 34, 35, 36, 9999};
        int[] want = {0, 0, 1, 1, 1, 1, 0, 0, 0};
        for (int i = 0; i < days.length; i++) {
            due("beds on " + days[i], g.beds(days[i], 10), want[i]);
            due("beds on " + days[i] + " as known ahead", g.beds(days[i], 9), 0);
            due("beds on " + days[i] + " as known at the last day", g.beds(days[i], 9999), want[i]);
        }
        g.days(10);
        g.term(1, 0, 1, 0);
        due("the first is asked, not the latest", g.beds(10, 20), 1);
        due("until the latest ends", g.beds(64, 20), 1);
        due("on its end", g.beds(65, 20), 0);
        about("BEDS: a TERM of 0 MONTHS takes none");
        deeds(1);
        g.term(0, 0, 0, 0);
        due("beds", g.beds(0, 0), 0);
        due("beds without persons", new PenaltyGrid().beds(0, 0), 0);
    }

    private static void bedsOfEightPersons() {
        about("BEDS: PERSONS, each once");
        for (int i = 1; i < 8; i++) g.person(20, 0);
        for (int i = 0; i < 16; i++) {
            g.deed(i % 8, 0, 0);
            g.term(i, 0, 1 + i % 8, 0);
        }
        for (int i = 0; i <= 8; i++) due("beds on day " + 60 * i, g.beds(60 * i, 0), 8 - i);
        due("beds on the day ahead of the last", g.beds(479, 0), 1);
    }

    private static void bedsAsKnownAtK() {
        about("BEDS on a DAY, as KNOWN at k: the first TERM and RELEASE as KNOWN then");
        deeds(1);
        g.term(0, 0, 10, 0);
        g.days(50);
        g.appeal(0);
        g.term(0, 0, 1, 0);
        g.days(20);
        g.appeal(1);
        g.term(0, 0, 10, 0);
        g.days(10);
        int[][] fromTo = {{0, 0, 300}, {49, 0, 300}, {50, 50, 80}, {69, 50, 80}, {70, 70, 370}, {80, 70, 370}, {9999, 70, 370}};
        for (int[] known : fromTo) {
            int[] days = {0, 10, 49, 50, 60, 69, 70, 79, 80, 100, 299, 300, 369, 370, 9999};
            for (int day : days) due("beds on " + day + " as known at " + known[0], g.beds(day, known[0]), day >= known[1] && day < known[2] ? 1 : 0);
        }
    }

    private static void rowsOfAPerson() {
        about("ROWS become those of a PERSON's TIME: how many. BAD");
        due("rows of a new one", g.many(8), 0);
        due("a person without deeds", g.prove(0), 0);
        g.person(20, 0);
        deeds(2);
        g.deed(1, 0, 0);
        due("a person without terms", g.prove(0), 0);
        g.term(0, 0, 1, 0);
        g.term(2, 0, 2, 0);
        g.term(1, 0, 3, 0);
        due("two", g.prove(0), 2);
        int[] wrong = {MIN, -1, 2, 8, MAX};
        for (int person : wrong) due("prove " + person, g.prove(person), BAD);
        due("rows are as they were", g.many(8), 2);
        rowIs(0, 0, 0, 30);
        rowIs(1, 2, 30, 120);
        due("the other", g.prove(1), 1);
        rowIs(0, 1, 0, 60);
        due("the second is gone", g.row(1, 0), -9);
        g.appeal(1);
        due("rows stay", g.many(8), 1);
        due("none", g.prove(1), 0);
        due("rows", g.many(8), 0);
        due("row 0", g.row(0, 0), -9);
        due("judge", g.judge(), 0);
    }

    private static void sixteenRows() {
        about("ROWS: for each such TERM (sixteen)");
        deeds(16);
        for (int i = 0; i < 16; i++) g.term(i, 0, 240, 0);
        due("rows", g.prove(0), 16);
        due("many", g.many(8), 16);
        for (int i = 0; i < 16; i++) rowIs(i, i, 7200 * i, 7200 * i + 7200);
        due("row 16", g.row(16, 0), -9);
        due("alter row 16", g.alterRow(16, 0, 0), -9);
        due("judge", g.judge(), 0);
        due("the last end", g.alterRow(15, 2, 115201), 115200);
        due("judge", g.judge(), 16);
        due("the last begin", g.alterRow(15, 1, 108001), 108000);
        due("judge", g.judge(), 16);
        due("the end of the one ahead", g.alterRow(14, 2, 108001), 108000);
        due("judge", g.judge(), 15);
    }

    private static void cells() {
        about("-9: there is none such, another what");
        int[] wrong = {MIN, -1, 0, 1, 16, MAX};
        for (int i : wrong) {
            due("row without rows " + i, g.row(i, 0), -9);
            due("alter without rows " + i, g.alterRow(i, 0, 5), -9);
        }
        deeds(2);
        g.days(3);
        g.term(0, 0, 1, 0);
        g.term(1, 0, 1, 0);
        g.prove(0);
        int[] none = {MIN, -1, 2, 16, MAX};
        int[] whats = {MIN, -1, 3, MAX};
        for (int i : none) {
            for (int what = 0; what < 3; what++) {
                due("row " + i, g.row(i, what), -9);
                due("alter row " + i, g.alterRow(i, what, 5), -9);
            }
        }
        for (int what : whats) {
            for (int i = 0; i < 2; i++) {
                due("row what " + what, g.row(i, what), -9);
                due("alter row what " + what, g.alterRow(i, what, 5), -9);
            }
        }
        rowIs(0, 0, 3, 33);
        rowIs(1, 1, 33, 63);
        about("alterRow: it becomes v: what it was");
        deeds(1);
        g.term(0, 0, 1, 0);
        g.prove(0);
        int[] values = {MIN, MAX, -9, 0, -1};
        for (int what = 0; what < 3; what++) {
            int was = what == 2 ? 30 : 0;
            for (int v : values) {
                due("alter to " + v, g.alterRow(0, what, v), was);
                due("it is", g.row(0, what), v);
                was = v;
            }
        }
    }

    /** Three rows: 0 0 30, 1 30 90, 2 0 90 (beside), 4 90 120, 5 90 90; term 3 is another person's. */
    private static void fiveRows() {
        begin();
        g.person(30, 0);
        read("beside if weapon;");
        for (int i = 0; i < 6; i++) g.deed(i == 3 ? 1 : 0, 0, 0);
        g.finding(2, 1, false);
        int[] months = {1, 2, 3, 1, 1, 0};
        for (int i = 0; i < 6; i++) g.term(i, 0, months[i], 0);
        g.prove(0);
    }

    private static void altered(int i, int what, int v, int want) {
        int was = g.alterRow(i, what, v);
        due("row " + i + " what " + what + " becomes " + v, g.judge(), want);
        g.alterRow(i, what, was);
        due("and what it was", g.judge(), 0);
    }

    private static void readerTakesRows() {
        about("THE READER: 0 if all ROWS are right (also without ROWS), else the first that isn't, and 1 more");
        due("a new one", new PenaltyGrid().judge(), 0);
        fiveRows();
        due("as proved", g.judge(), 0);
        int[][] rows = {{0, 0, 30}, {1, 30, 90}, {2, 0, 90}, {4, 90, 120}, {5, 120, 120}};
        for (int i = 0; i < 5; i++) {
            rowIs(i, rows[i][0], rows[i][1], rows[i][2]);
            for (int what = 1; what < 3; what++) {
                altered(i, what, rows[i][what] + 1, i + 1);
                altered(i, what, rows[i][what] - 1, i + 1);
                altered(i, what, MIN, i + 1);
                altered(i, what, MAX, i + 1);
            }
        }
        g.alterRow(4, 2, 7);
        g.alterRow(1, 1, 7);
        due("the first that isn't", g.judge(), 2);
    }

    private static void readerWantsTermsThatRise() {
        about("THE READER: that TERMS rise");
        for (int i = 0; i < 4; i++) {
            int[] wrong = {MIN, -1, 6, 16, MAX};
            for (int term : wrong) {
                fiveRows();
                altered(i, 0, term, i + 1);
            }
        }
        begin();
        deeds(4);
        for (int i = 0; i < 4; i++) g.term(i, 0, 0, 0);
        g.prove(0);
        altered(1, 0, 0, 2);
        altered(2, 0, 1, 3);
        altered(2, 0, 0, 3);
        altered(3, 0, 2, 4);
        altered(0, 0, 1, 2);
        altered(2, 0, 3, 4);
        g.appeal(3);
        g.prove(0);
        g.term(3, 0, 0, 0);
        due("one may be left out behind", g.judge(), 0);
        g.alterRow(2, 0, 4);
        due("and between", g.judge(), 0);
        g.alterRow(1, 0, 2);
        due("and between, too", g.judge(), 0);
        g.alterRow(0, 0, 1);
        due("and ahead", g.judge(), 0);
    }

    private static void readerWantsTermsThatStandNow() {
        about("THE READER: that TERMS stand NOW");
        for (int i = 0; i < 5; i++) {
            fiveRows();
            int term = g.row(i, 0);
            g.appeal(term);
            due("term " + term + " is unwound", g.judge(), i + 1);
        }
        fiveRows();
        g.days(1);
        due("a day later", g.judge(), 0);
        g.finding(0, 1, false);
        due("the first found to run beside", g.judge(), 0);
        g.finding(1, 1, false);
        due("the second found to run beside", g.judge(), 2);
        begin();
        g.keep();
        deeds(1);
        g.term(0, 0, 0, 0);
        g.prove(0);
        g.again();
        due("a term that isn't there any more", g.judge(), 1);
    }

    private static void readerWantsOnePerson() {
        about("THE READER: and are of one PERSON (that of the first ROW)");
        g.person(30, 0);
        for (int i = 0; i < 4; i++) g.deed(i % 2, 0, 0);
        for (int i = 0; i < 4; i++) g.term(i, 0, 0, 0);
        g.prove(0);
        altered(1, 0, 1, 2);
        altered(1, 0, 3, 2);
        altered(0, 0, 1, 2);
        g.alterRow(0, 0, 1);
        g.alterRow(1, 0, 3);
        due("both of the other person", g.judge(), 0);
    }
}
