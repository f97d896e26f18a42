/** The bounds that section 5 of the document's terms tells, and the promises 27 to 29: spread, another law, like. */
public final class SpreadEdgeTest {
    private static final int BAD = -1, NONE = -3, STATE = -4;
    private static final int MIN = Integer.MIN_VALUE, MAX = Integer.MAX_VALUE;
    private static PenaltyGrid g;

    public static void main(String[] args) {
        spreadArguments();
        toldFromTwoAndTwoOn();
        drawnOnesAlone();
        excessAnd1000000More();
        atLeastSuchAnExcess();
        allWaysToChoose();
        anotherLawArguments();
        anotherLawWithARange();
        likeArguments();
        likeSums();
        likePoints();
        likeAsKnownAtK();
        likeTheLeast();
        Check.end();
    }

    private static void about(String sentence) {
        Check.about(sentence);
        begin();
    }

    private static void begin() {
        g = new PenaltyGrid();
        g.person(20, 0);
    }

    private static void due(String call, long got, long want) {
        Check.due(call, got, want);
    }

    private static int read(String text) {
        return Check.read(g, text);
    }

    /** Drawn terms of court 2 with the first months, of court 0 or 4 with the others. */
    private static void drawn(int[] own, int[] others) {
        begin();
        for (int i = 0; i < own.length + others.length; i++) {
            g.deed(0, 0, 0);
            if (i < own.length) g.term(i, 2, own[i], 1);
            else g.term(i, i % 2 * 4, others[i - own.length], 11);
        }
    }

    private static void spreadArguments() {
        about("SPREAD of a COURT as KNOWN at k: BAD: also another what; STATE: it is not told (of what 2, 3, 4)");
        due("n of none", g.spread(0, 0, 0), 0);
        due("m of none", g.spread(0, 0, 1), 0);
        for (int what = 2; what < 5; what++) due("what " + what + " of none", g.spread(0, 0, what), STATE);
        for (int run = 0; run < 2; run++) {
            int[] courts = {MIN, -1, 5, MAX};
            for (int court : courts) for (int what = 0; what < 5; what++) due("court " + court, g.spread(court, 0, what), BAD);
            int[] days = {MIN, -1, 10000, MAX};
            for (int k : days) for (int what = 0; what < 5; what++) due("k " + k, g.spread(2, k, what), BAD);
            int[] whats = {MIN, -1, 5, MAX};
            for (int what : whats) due("what " + what, g.spread(2, 0, what), BAD);
            drawn(new int[] {1, 2}, new int[] {3, 4});
        }
        due("n of court 0", g.spread(0, 0, 0), 1);
        due("n of court 4", g.spread(4, 0, 0), 1);
        due("n of court 2", g.spread(2, 0, 0), 2);
        due("n of court 1", g.spread(1, 0, 0), 0);
        for (int court = 0; court < 5; court++) due("m", g.spread(court, 0, 1), 4);
    }

    private static void toldFromTwoAndTwoOn() {
        about("it is told only if n and m - n are 2 at least");
        for (int n = 0; n <= 4; n++) {
            for (int others = 0; others <= 4; others++) {
                drawn(new int[n], new int[others]);
                boolean told = n >= 2 && others >= 2;
                due("n " + n, g.spread(2, 0, 0), n);
                due("m " + (n + others), g.spread(2, 0, 1), n + others);
                due("excess of " + n + " and " + others, g.spread(2, 0, 2), told ? 1000000 : STATE);
                int ways = new int[] {6, 10, 15, 10, 20, 35, 15, 35, 70}[told ? n * 3 + others - 8 : 0];
                due("above of " + n + " and " + others, g.spread(2, 0, 3), told ? ways : STATE);
                due("below of " + n + " and " + others, g.spread(2, 0, 4), told ? ways : STATE);
            }
        }
    }

    private static void drawnOnesAlone() {
        about("of all TERMS that are drawn and stand, as KNOWN at k");
        for (int i = 0; i < 10; i++) g.deed(0, 0, 0);
        g.days(5);
        for (int i = 0; i < 6; i++) g.term(i, i / 3, i, 1 + 10 * (i % 4));
        for (int i = 6; i < 10; i++) g.term(i, i % 2, 240, 10 * (i - 6));
        int[] days = {0, 4, 5, 6, 9999};
        for (int k : days) {
            due("n as known at " + k, g.spread(0, k, 0), k < 5 ? 0 : 3);
            due("m as known at " + k, g.spread(0, k, 1), k < 5 ? 0 : 6);
            due("excess as known at " + k, g.spread(0, k, 2), k < 5 ? STATE : 1000000 + 3 * 3 - 12 * 3);
        }
        g.days(5);
        g.appeal(0);
        due("n the day ahead of an appeal", g.spread(0, 9, 0), 3);
        due("n on the day of an appeal", g.spread(0, 10, 0), 2);
        due("m on the day of an appeal", g.spread(0, 10, 1), 5);
        due("excess on the day of an appeal", g.spread(0, 10, 2), 1000000 + 3 * 3 - 12 * 2);
        g.appeal(1);
        due("one is left", g.spread(0, 10, 2), STATE);
        due("all but one are of it", g.spread(1, 10, 2), STATE);
        due("the day ahead", g.spread(1, 9, 2), 1000000 + 12 * 3 - 3 * 3);
    }

    private static void excessAnd1000000More() {
        about("EXCESS: the sum of MONTHS of a times (m - n), less that of the others times n; and 1000000 more");
        drawn(new int[] {1, 2, 3}, new int[] {10, 20});
        due("three and two", g.spread(2, 0, 2), 1000000 + 6 * 2 - 30 * 3);
        drawn(new int[] {7, 7}, new int[] {7, 7, 7, 7});
        due("all alike", g.spread(2, 0, 2), 1000000);
        int[] most = {240, 240, 240, 240, 240, 240, 240, 240};
        drawn(most, new int[8]);
        due("the most", g.spread(2, 0, 2), 1000000 + 15360);
        drawn(new int[8], most);
        due("the least", g.spread(2, 0, 2), 1000000 - 15360);
        drawn(new int[] {1, 0}, new int[14]);
        due("two of sixteen", g.spread(2, 0, 2), 1000014);
        drawn(new int[14], new int[] {1, 0});
        due("fourteen of sixteen", g.spread(2, 0, 2), 1000000 - 14);
    }

    private static int above(int[] own, int[] others) {
        int m = own.length + others.length;
        int least = 0;
        for (int months : own) least += months;
        int count = 0;
        for (int set = 0; set < 1 << m; set++) {
            int sum = 0;
            for (int i = 0; i < m; i++) {
                if ((set >> i & 1) == 1) sum += i < own.length ? own[i] : others[i - own.length];
            }
            if (Integer.bitCount(set) == own.length && sum >= least) count++;
        }
        return count;
    }

    private static void aboveIs(int want, int[] own, int[] others) {
        drawn(own, others);
        due("above, by hand", want, above(own, others));
        due("above", g.spread(2, 0, 3), want);
    }

    private static void atLeastSuchAnExcess() {
        about("CHANCE: how many have at least such an EXCESS (taken for a's): above");
        aboveIs(1, new int[] {9, 8}, new int[] {7, 6});
        aboveIs(2, new int[] {9, 7}, new int[] {8, 6});
        aboveIs(4, new int[] {9, 6}, new int[] {8, 7});
        aboveIs(4, new int[] {8, 7}, new int[] {9, 6});
        aboveIs(5, new int[] {8, 6}, new int[] {9, 7});
        aboveIs(6, new int[] {7, 6}, new int[] {9, 8});
        aboveIs(6, new int[] {5, 5}, new int[] {5, 5});
        aboveIs(3, new int[] {5, 5}, new int[] {5, 4});
        aboveIs(1, new int[] {240, 240}, new int[] {239, 239, 239});
        aboveIs(10, new int[] {0, 0, 0}, new int[] {0, 240});
        aboveIs(12870, new int[] {0, 1, 2, 3, 4, 5, 6, 7}, new int[] {8, 9, 10, 11, 12, 13, 14, 15});
        aboveIs(1, new int[] {8, 9, 10, 11, 12, 13, 14, 15}, new int[] {0, 1, 2, 3, 4, 5, 6, 7});
        aboveIs(12870, new int[8], new int[8]);
        aboveIs(120, new int[14], new int[2]);
        int[] own = {3, 1, 4, 1, 5, 9, 2, 6};
        int[] others = {5, 3, 5, 8, 9, 7, 9, 3};
        for (int n = 2; n <= 8; n++) {
            for (int more = 2; more <= 8; more++) {
                int[] first = java.util.Arrays.copyOf(own, n);
                int[] second = java.util.Arrays.copyOf(others, more);
                drawn(first, second);
                due("above of " + n + " and " + more, g.spread(2, 0, 3), above(first, second));
            }
        }
    }

    private static void allWaysToChoose() {
        about("CHANCE: of all ways to choose n of the m TERMS: how many ways there are: below");
        for (int m = 4; m <= 16; m++) {
            for (int n = 2; n <= m - 2; n++) {
                drawn(new int[n], new int[m - n]);
                int ways = 0;
                for (int set = 0; set < 1 << m; set++) if (Integer.bitCount(set) == n) ways++;
                due(n + " of " + m, g.spread(2, 0, 4), ways);
            }
        }
    }

    private static void anotherLawArguments() {
        about("ANOTHER LAW: BAD");
        int[] none = {MIN, -1, 0, 6, MAX};
        for (int v : none) due("another " + v + " without laws", g.another(v, true), BAD);
        for (int i = 0; i < 6; i++) {
            due("another " + i + ", not read yet", g.another(i, false), BAD);
            read("");
            due("another " + i, g.another(i, false), 0);
            due("another " + i, g.another(i, true), 0);
        }
        due("another 6", g.another(6, true), BAD);
        due("another -1", g.another(-1, false), BAD);
    }

    private static void anotherLawWithARange() {
        about("of all TERMS that stand NOW and whose DEED has a RANGE by v, as KNOWN NOW: the sum of its least MONTHS (and most)");
        for (int i = 0; i < 16; i++) g.deed(0, i % 6, 0);
        read("range 0 0 239 to 240;");
        read("grave 1 1;grave 2 2;range 1 0 0 to 7;range 2 0 5 to 5;");
        read("range 0 0 1 to 2;range 1 0 10 to 20;up 1 if weapon;");
        due("no terms", g.another(0, false), 0);
        for (int i = 0; i < 16; i++) g.term(i, 0, 0, 0);
        due("least of sixteen", g.another(0, false), 16 * 239);
        due("most of sixteen", g.another(0, true), 16 * 240);
        due("least of some kinds", g.another(1, false), 15);
        due("most of some kinds", g.another(1, true), 3 * 7 + 3 * 5);
        due("no weapon", g.another(2, false), 16);
        g.days(1);
        g.finding(3, 1, false);
        due("a weapon", g.another(2, false), 25);
        due("a weapon, most", g.another(2, true), 50);
        g.appeal(0);
        due("one is unwound", g.another(0, true), 15 * 240);
        for (int i = 1; i < 16; i++) g.appeal(i);
        due("all are unwound", g.another(0, true), 0);
    }

    private static void likeArguments() {
        about("LIKE a DEED as KNOWN at k. BAD; NONE: there is no other one");
        due("without deeds", g.like(0, 0), BAD);
        g.days(5);
        g.deed(0, 0, 0);
        due("alone", g.like(0, 5), NONE);
        g.deed(0, 5, 0);
        int[] wrong = {MIN, -1, 2, 16, MAX};
        for (int deed : wrong) due("like " + deed, g.like(deed, 5), BAD);
        due("like none, on no day", g.like(2, 10000), BAD);
        due("the other has no term", g.like(0, 5), NONE);
        g.term(0, 0, 0, 0);
        due("it has one, the other none", g.like(0, 5), NONE);
        due("the other", g.like(1, 5), 0);
        due("the other, as known ahead", g.like(1, 4), NONE);
        due("the other, as known at the last day", g.like(1, 9999), 0);
        g.term(1, 0, 0, 0);
        due("both", g.like(0, 5), 1);
        g.days(5);
        g.appeal(1);
        due("unwound", g.like(0, 10), NONE);
        due("unwound, as known ahead", g.like(0, 9), 1);
    }

    /** Deed 0 is asked, deed 1 is apart by what is told, deeds 2 and on are apart by so many facts. */
    private static void likeSums() {
        about("3 for another KIND, 1 for each of the FACTS that differs, 2 if one alone is young");
        int[][] apart = {{0, 0, 0, 0}, {1, 0, 0, 3}, {5, 0, 0, 3}, {0, 1, 0, 1}, {0, 8, 0, 1}, {0, 5, 0, 2}, {0, 7, 0, 3}, {0, 15, 0, 4}, {0, 0, 1, 2},
            {2, 0, 1, 5}, {0, 1, 1, 3}, {3, 4, 0, 4}, {1, 0, 1, 5}};
        for (int[] row : apart) {
            for (int facts = 0; facts < 5; facts++) {
                for (int order = 0; order < 2; order++) {
                    begin();
                    g.person(17, 359);
                    int told = order == 0 ? 1 : 2;
                    g.deed(0, 0, 0);
                    if (order == 0) g.deed(row[2], row[0], 0);
                    g.deed(0, 0, 0);
                    if (order == 1) g.deed(row[2], row[0], 0);
                    g.finding(told, row[1], true);
                    g.finding(3 - told, new int[] {0, 2, 6, 14, 15}[facts], false);
                    g.term(1, 0, 0, 0);
                    g.term(2, 0, 0, 0);
                    int want = facts < row[3] ? 3 - told : facts > row[3] ? told : 1;
                    due("apart by " + row[3] + " or " + facts, g.like(0, 0), want);
                }
            }
        }
        about("2 if one alone is young: below 18");
        g = new PenaltyGrid();
        g.person(18, 0);
        g.person(30, 0);
        g.person(17, 359);
        for (int i = 0; i < 3; i++) g.deed(i, 0, 0);
        for (int i = 0; i < 3; i++) g.deed(i, 0, 0);
        g.finding(3, 1, false);
        g.finding(4, 1, false);
        g.finding(5, 3, false);
        for (int i = 3; i < 6; i++) g.term(i, 0, 0, 0);
        due("of one of 18", g.like(0, 0), 3);
        due("of one of 30", g.like(1, 0), 3);
        g.appeal(0);
        due("of one of 18", g.like(0, 0), 4);
        due("of one of 30", g.like(1, 0), 4);
        due("of one of 17", g.like(2, 0), 5);
        g.appeal(1);
        g.term(3, 0, 0, 0);
        due("of one of 30, the other is 18", g.like(1, 0), 3);
        due("of one of 18, the other is 18", g.like(0, 0), 3);
        g.finding(3, 7, false);
        due("of one of 17: three facts and young, or two facts", g.like(2, 0), 5);
        due("of one of 18: three facts, or two facts and young", g.like(0, 0), 3);
        due("of one of 30: three facts, or two facts and young", g.like(1, 0), 3);
        about("2 if one alone is young: not if both are");
        g.person(10, 0);
        g.person(17, 359);
        g.deed(1, 0, 0);
        g.deed(0, 0, 0);
        g.deed(2, 0, 0);
        g.finding(2, 8, false);
        g.term(1, 0, 0, 0);
        g.term(2, 0, 0, 0);
        due("of two young ones", g.like(0, 0), 2);
        due("of a grown-up", g.like(1, 0), 2);
    }

    private static void likePoints() {
        about("by how much POINTS differ (POINTS by no LAW are 0; each judged on DAY k by THE LAW)");
        for (int points = 0; points <= 5; points++) {
            begin();
            g.person(20, 0);
            g.deed(1, 5, 0);
            g.finding(0, 15, false);
            g.term(0, 0, 0, 0);
            g.days(1);
            read("points 5 " + points + ";");
            g.deed(0, 0, 1);
            g.deed(1, 0, 1);
            g.deed(0, 1, 1);
            g.term(2, 0, 0, 0);
            g.term(3, 0, 0, 0);
            due("points " + points + ", or another kind", g.like(1, 1), points <= 3 ? 2 : 3);
            g.term(1, 0, 0, 0);
            g.deed(1, 2, 1);
            g.term(4, 0, 0, 0);
            due("points " + points + " less, or another kind", g.like(2, 1), points <= 3 ? 1 : 4);
        }
        about("POINTS by no LAW are 0");
        g.person(20, 0);
        g.deed(0, 0, 0);
        g.term(0, 0, 0, 0);
        g.days(1);
        g.deed(0, 1, 1);
        g.deed(1, 1, 1);
        g.deed(1, 2, 1);
        g.term(2, 0, 0, 0);
        g.term(3, 0, 0, 0);
        due("no law", g.like(1, 1), 2);
        g.days(1);
        read("points 0 9;back;");
        due("no law as judged then", g.like(1, 1), 2);
        due("9 points: both alike far, the kind counts", g.like(1, 2), 2);
        g.days(1);
        read("back;");
        due("none again", g.like(1, 3), 2);
        about("POINTS by no LAW are 0: as far from those by one");
        for (int points = 0; points <= 5; points++) {
            for (int facts = 0; facts <= 4; facts++) {
                begin();
                g.person(20, 0);
                g.deed(0, 0, 0);
                g.finding(0, new int[] {0, 1, 3, 7, 15}[facts], false);
                g.deed(1, 5, 0);
                g.finding(1, 15, false);
                g.deed(1, 0, 0);
                g.term(0, 0, 0, 0);
                g.term(1, 0, 0, 0);
                g.days(1);
                read("points 5 " + points + ";");
                g.deed(1, 0, 1);
                g.term(3, 0, 0, 0);
                due("no law, and " + facts + " facts or points " + points, g.like(2, 1), facts <= points ? 0 : 3);
            }
        }
        about("each judged on DAY k by THE LAW: its own");
        g.person(20, 0);
        g.deed(1, 0, 0);
        g.term(0, 0, 0, 0);
        g.days(1);
        read("points 0 9;");
        g.deed(0, 1, 1);
        g.deed(1, 1, 1);
        g.days(1);
        read("points 0 1;");
        g.deed(1, 1, 2);
        g.finding(3, 15, false);
        g.term(2, 0, 0, 0);
        g.term(3, 0, 0, 0);
        due("9 points, or 1 point and four facts", g.like(1, 2), 0);
        g.finding(0, 7, false);
        due("9 points, or 1 point and four facts, or 3 and another kind", g.like(1, 2), 3);
        g.days(1);
        read("points 0 0;back;");
        due("judged by one that looks back", g.like(1, 3), 2);
        due("judged on the day ahead", g.like(1, 2), 3);
    }

    private static void likeAsKnownAtK() {
        about("LIKE a DEED, as KNOWN at k: the FACTS of both");
        for (int i = 0; i < 3; i++) g.deed(0, 0, 0);
        g.finding(0, 1, false);
        g.finding(1, 1, false);
        g.finding(2, 14, false);
        g.term(1, 0, 0, 0);
        g.term(2, 0, 0, 0);
        g.days(5);
        g.finding(0, 14, false);
        g.days(5);
        g.finding(1, 14, false);
        g.days(5);
        g.finding(1, 1, true);
        int[] facts = {0, 1, 4, 1, 5, 2, 9, 2, 10, 1, 14, 1, 15, 2, 9999, 2};
        for (int i = 0; i < facts.length; i += 2) due("as known at " + facts[i], g.like(0, facts[i]), facts[i + 1]);
        about("LIKE a DEED, as KNOWN at k: POINTS of both");
        g.person(20, 0);
        g.person(20, 0);
        read("points 5 9;");
        g.deed(0, 5, 0);
        g.deed(2, 5, 0);
        g.term(0, 0, 0, 0);
        g.term(1, 0, 0, 0);
        g.days(1);
        for (int person = 0; person < 3; person++) g.deed(person, 0, 1);
        g.finding(3, 1, false);
        g.term(3, 0, 0, 0);
        g.term(4, 0, 0, 0);
        g.days(9);
        g.appeal(0);
        g.days(10);
        g.appeal(1);
        int[] points = {1, 4, 9, 4, 10, 3, 19, 3, 20, 4, 9999, 4};
        for (int i = 0; i < points.length; i += 2) due("as known at " + points[i], g.like(2, points[i]), points[i + 1]);
    }

    private static void likeTheLeast() {
        about("of several the least");
        for (int i = 0; i < 16; i++) g.deed(0, 0, 0);
        for (int i = 15; i >= 0; i--) g.term(i, 0, 0, 0);
        for (int i = 0; i < 16; i++) due("like " + i, g.like(i, 0), i == 0 ? 1 : 0);
        g.finding(0, 1, false);
        due("the first is apart", g.like(5, 0), 1);
        g.appeal(g.deedOf(1, 0, 5));
        due("the second has no term", g.like(5, 0), 2);
        g.finding(15, 1, false);
        due("the last is like the first", g.like(0, 0), 15);
        due("the first is like the last", g.like(15, 0), 0);
    }
}
