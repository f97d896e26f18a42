/**
 * What answers below 0 are refusals changes nothing, and of several refusals the first named is answered: asked of a
 * new object, of one with a bit of everything, and of one in which everything is full.
 */
public final class RefusalTest {
    private static final int BAD = -1, FULL = -2, NONE = -3, STATE = -4;
    private static final int NO_ROW = -9, NOTHING = -11, OUTSIDE = -12, OTHER = -13, BELOW = -14;
    private static final int MIN = Integer.MIN_VALUE, MAX = Integer.MAX_VALUE;

    private interface Ints {
        int on(PenaltyGrid g, int[] a);
    }

    private static final Twins.Story NEW = RefusalTest::newOne;
    private static final Twins.Story SOME = RefusalTest::some;
    private static final Twins.Story ALL = RefusalTest::all;

    public static void main(String[] args) {
        Check.about("such a call changes nothing (a new object)");
        ofANewOne();
        Check.about("such a call changes nothing (BAD)");
        wrongNumbers(SOME, 2, 5, 6, 2);
        Check.about("such a call changes nothing (BAD, all is full)");
        wrongNumbers(ALL, 8, 16, 16, 6);
        Check.about("such a call changes nothing");
        ofSome();
        Check.about("such a call changes nothing (FULL, of several the first named)");
        ofAll();
        Check.about("THE TAPE is used up by read()");
        tapeIsUsedUp();
        Check.end();
    }

    private static void newOne(PenaltyGrid g) {
    }

    /** Two persons, five deeds, six terms (two unwound), two laws, three times held, three rows; kept is less. */
    private static void some(PenaltyGrid g) {
        g.person(20, 0);
        g.person(17, 100);
        g.deed(0, 1, 0);
        Check.read(g, "points 1 4;range 0 0 1 to 9;grave 2 1;beside if weapon;");
        g.term(0, 1, 5, 1);
        g.good(0, 3);
        g.keep();
        g.days(7);
        g.deed(1, 2, 3);
        g.finding(1, 5, true);
        g.deed(0, 3, 7);
        g.deed(0, 4, 7);
        g.deed(0, 0, 7);
        g.held(0, 0, 2);
        g.held(1, 2, 6);
        g.term(1, 1, 12, 11);
        g.appeal(0);
        g.term(0, 2, 7, 21);
        g.days(13);
        Check.read(g, "old 20;points 1 2;range 1 0 3 to 30;back;");
        g.term(2, 2, 4, 1);
        g.finding(2, 1, false);
        g.term(3, 0, 3, 30);
        g.term(4, 0, 2, 0);
        g.appeal(3);
        g.held(0, 15, 20);
        g.good(1, 99);
        g.prove(0);
        g.alterRow(1, 2, 12345);
        g.sheet(0, 0, 3);
        g.put(0, 1, -7);
        g.sheet(1, 1, 5);
        for (int i = 0; i < 5; i++) g.put(1, i, 4 * i);
        g.sheet(3, 3, 2);
        g.put(3, 0, 5);
        g.shelf(0, 0, 1);
        g.shelf(1, 2, 4);
        g.shelf(2, 4, 1);
        g.act(0, 3, 21);
        Check.feed(g, "old 33;back");
    }

    /** Nothing more comes into it: day 9999, and 16 deeds with a term each but the last one, whose term is unwound. */
    private static void all(PenaltyGrid g) {
        for (int i = 0; i < 8; i++) g.person(10 + i, 10 * i);
        for (int i = 0; i < 16; i++) g.deed(i % 3, i % 6, 0);
        for (int i = 0; i < 24; i++) g.finding(i % 16, i % 16, i % 2 == 0);
        Check.read(g, "range 0 0 1 to 2;points 1 1;points 2 2;");
        Check.read(g, "beside if weapon;range 1 1 0 to 240;");
        for (int i = 0; i < 4; i++) Check.read(g, "back;");
        for (int i = 0; i < 16; i++) g.term(i, i % 5, 10 * i, i % 2 + 10 * (i % 4));
        g.appeal(15);
        Check.days(g, 9999);
        for (int i = 0; i < 12; i++) g.held(i % 3, i, 2 * i);
        for (int i = 0; i < 10; i++) g.good(0, 99);
        g.good(0, 9);
        g.keep();
        g.prove(1);
        for (int i = 0; i < 4; i++) {
            g.sheet(i, i, 40);
            g.put(i, 39, 9);
            g.shelf(i, i, 1);
        }
        g.act(2, 1, 3);
        Check.feed(g, "back;" + " ".repeat(245));
    }

    private static void refused(Twins.Story story, String name, Ints call, int want, int... a) {
        StringBuilder told = new StringBuilder(name);
        for (int n : a) told.append(' ').append(n);
        Twins.unchanged(told.toString(), story, g -> call.on(g, a), want);
    }

    /** Each of the numbers in turn becomes each of its wrong values, the others stay right. */
    private static void wrong(Twins.Story story, String name, Ints call, int[] right, int[]... wrongs) {
        PenaltyGrid g = new PenaltyGrid();
        story.tell(g);
        Check.holds(name + " with the right numbers is not BAD", call.on(g, right) != BAD);
        for (int at = 0; at < wrongs.length; at++) {
            for (int v : wrongs[at]) {
                int[] a = right.clone();
                a[at] = v;
                refused(story, name, call, BAD, a);
            }
        }
    }

    /** What lies outside 0 to below. */
    private static int[] not(int below) {
        return new int[] {MIN, -1, below, MAX};
    }

    private static final int[] NO_DAY = {MIN, -1, 10000, MAX};

    private static void ofANewOne() {
        Twins.Story s = NEW;
        refused(s, "age", (g, a) -> g.age(0, 0), BAD);
        refused(s, "deed", (g, a) -> g.deed(0, 0, 0), BAD);
        refused(s, "finding", (g, a) -> g.finding(0, 0, false), BAD);
        for (int what = 0; what < 6; what++) refused(s, "deedOf", (g, a) -> g.deedOf(0, 0, a[0]), BAD, what);
        for (int what = 0; what < 11; what++) refused(s, "version", (g, a) -> g.version(0, a[0]), BAD, what);
        refused(s, "law", (g, a) -> g.law(0, 0), BAD);
        refused(s, "points", (g, a) -> g.points(0, 0, 0), BAD);
        refused(s, "grave", (g, a) -> g.grave(0, 0, 0), BAD);
        refused(s, "range", (g, a) -> g.range(0, 0, 0), BAD);
        refused(s, "term", (g, a) -> g.term(0, 0, 0, 0), BAD);
        refused(s, "appeal", (g, a) -> g.appeal(0), BAD);
        refused(s, "held", (g, a) -> g.held(0, 0, 0), BAD);
        refused(s, "credit", (g, a) -> g.credit(0, 0), BAD);
        refused(s, "good", (g, a) -> g.good(0, 1), BAD);
        refused(s, "release", (g, a) -> g.release(0, 0), BAD);
        refused(s, "prove", (g, a) -> g.prove(0), BAD);
        refused(s, "row", (g, a) -> g.row(0, 0), NO_ROW);
        refused(s, "alterRow", (g, a) -> g.alterRow(0, 0, 0), NO_ROW);
        for (int what = 2; what < 5; what++) refused(s, "spread", (g, a) -> g.spread(0, 0, a[0]), STATE, what);
        refused(s, "another", (g, a) -> g.another(0, true), BAD);
        refused(s, "like", (g, a) -> g.like(0, 0), BAD);
        refused(s, "put", (g, a) -> g.put(0, 0, 1), NOTHING);
        refused(s, "item", (g, a) -> g.item(0, 0, 0), NOTHING);
        refused(s, "comes", (g, a) -> g.comes(0, 0, 0, 0), BAD);
        for (int what = 0; what < 4; what++) refused(s, "shelf", (g, a) -> g.shelf(0, a[0], 0), BAD, what);
        for (int as = 0; as < 7; as++) refused(s, "taken", (g, a) -> g.taken(0, a[0]), NOTHING, as);
        for (int as = 10; as < 14; as++) refused(s, "taken", (g, a) -> g.taken(0, a[0]), NOTHING, as);
        refused(s, "trace", (g, a) -> g.trace(0), NONE);
        refused(s, "again", (g, a) -> g.again(), NONE);
        refused(s, "act", (g, a) -> g.act(0, 0, 5), 0);
        refused(s, "amiss", (g, a) -> g.amiss(0), 0);
        refused(s, "beds", (g, a) -> g.beds(0, 0), 0);
        refused(s, "judge", (g, a) -> g.judge(), 0);
        wrong(s, "days", (g, a) -> g.days(a[0]), new int[] {1}, new int[] {MIN, -1, 0, 2001, MAX});
        wrong(s, "person", (g, a) -> g.person(a[0], a[1]), new int[] {0, 0}, not(91), not(360));
        wrong(s, "feed", (g, a) -> g.feed(59, a[0]), new int[] {1}, new int[] {MIN, -1, 0, 9, MAX});
        wrong(s, "amiss", (g, a) -> g.amiss(a[0]), new int[] {0}, NO_DAY);
        wrong(s, "beds", (g, a) -> g.beds(a[0], a[1]), new int[] {0, 0}, NO_DAY, NO_DAY);
        wrong(s, "spread", (g, a) -> g.spread(a[0], a[1], a[2]), new int[] {0, 0, 2}, not(5), NO_DAY, not(5));
        wrong(s, "sheet", (g, a) -> g.sheet(a[0], a[1], a[2]), new int[] {0, 0, 0}, not(4), new int[] {MIN, -2, 4, MAX}, new int[] {41, MAX});
        wrong(s, "many", (g, a) -> g.many(a[0]), new int[] {0}, not(11));
    }

    /** The calls that take a number, with all that isn't as told. */
    private static void wrongNumbers(Twins.Story s, int persons, int deeds, int terms, int laws) {
        int now = s == ALL ? 9999 : 20;
        int line = s == ALL ? 13 : 14;
        int withoutTerm = s == ALL ? 15 : 2;
        wrong(s, "days", (g, a) -> g.days(a[0]), new int[] {1}, new int[] {MIN, -1, 0, 2001, MAX});
        wrong(s, "person", (g, a) -> g.person(a[0], a[1]), new int[] {0, 0}, not(91), not(360));
        wrong(s, "age", (g, a) -> g.age(a[0], a[1]), new int[] {1, 0}, not(persons), NO_DAY);
        wrong(s, "deed", (g, a) -> g.deed(a[0], a[1], a[2]), new int[] {1, 1, 0}, not(persons), not(6), not(now + 1));
        wrong(s, "finding", (g, a) -> g.finding(a[0], a[1], true), new int[] {1, 1}, not(deeds), not(16));
        wrong(s, "deedOf", (g, a) -> g.deedOf(a[0], a[1], a[2]), new int[] {1, 1, 1}, not(deeds), NO_DAY, not(6));
        wrong(s, "feed", (g, a) -> g.feed(59, a[0]), new int[] {1}, new int[] {MIN, -1, 0, 9, MAX});
        wrong(s, "version", (g, a) -> g.version(a[0], a[1]), new int[] {0, 0}, not(laws), new int[] {MIN, -1, 3, 9, line, MAX});
        wrong(s, "law", (g, a) -> g.law(a[0], a[1]), new int[] {0, 9999}, not(deeds), NO_DAY);
        wrong(s, "points", (g, a) -> g.points(a[0], a[1], a[2]), new int[] {0, 0, 0}, not(deeds), not(laws), NO_DAY);
        wrong(s, "grave", (g, a) -> g.grave(a[0], a[1], a[2]), new int[] {0, 0, 0}, not(deeds), not(laws), NO_DAY);
        wrong(s, "range", (g, a) -> g.range(a[0], a[1], a[2]), new int[] {0, 0, 0}, not(deeds), not(laws), NO_DAY);
        wrong(s, "term", (g, a) -> g.term(a[0], a[1], a[2], a[3]), new int[] {withoutTerm, 0, 0, 0}, not(deeds), not(5), not(241),
            new int[] {MIN, -1, 2, 9, 12, 22, 32, 40, 41, MAX});
        wrong(s, "appeal", (g, a) -> g.appeal(a[0]), new int[] {0}, not(terms));
        wrong(s, "amiss", (g, a) -> g.amiss(a[0]), new int[] {0}, NO_DAY);
        wrong(s, "held", (g, a) -> g.held(a[0], a[1], a[2]), new int[] {0, 2, 5}, not(persons), new int[] {MIN, -1, 6, now, now + 1, MAX},
            new int[] {MIN, -1, 1, now + 1, MAX});
        wrong(s, "credit", (g, a) -> g.credit(a[0], a[1]), new int[] {0, 0}, not(persons), NO_DAY);
        wrong(s, "good", (g, a) -> g.good(a[0], a[1]), new int[] {0, 1}, not(persons), new int[] {MIN, -1, 0, 100, MAX});
        wrong(s, "release", (g, a) -> g.release(a[0], a[1]), new int[] {0, 0}, not(persons), NO_DAY);
        wrong(s, "beds", (g, a) -> g.beds(a[0], a[1]), new int[] {0, 0}, NO_DAY, NO_DAY);
        wrong(s, "prove", (g, a) -> g.prove(a[0]), new int[] {0}, not(persons));
        wrong(s, "spread", (g, a) -> g.spread(a[0], a[1], a[2]), new int[] {0, 0, 2}, not(5), NO_DAY, not(5));
        wrong(s, "another", (g, a) -> g.another(a[0], false), new int[] {0}, not(laws));
        wrong(s, "like", (g, a) -> g.like(a[0], a[1]), new int[] {0, 0}, not(deeds), NO_DAY);
        wrong(s, "sheet", (g, a) -> g.sheet(a[0], a[1], a[2]), new int[] {1, 0, 0}, not(4), new int[] {MIN, -2, 4, MAX}, new int[] {41, MAX});
        wrong(s, "put", (g, a) -> g.put(a[0], a[1], 1), new int[] {0, 0}, not(4));
        wrong(s, "item", (g, a) -> g.item(a[0], a[1], a[2]), new int[] {0, 0, 0}, not(4), not(4));
        wrong(s, "comes", (g, a) -> g.comes(a[0], a[1], a[2], a[3]), new int[] {0, 1, 0, 1}, not(deeds), not(4), new int[0], not(10));
        for (int what = 0; what < 6; what++) {
            int[] none = not(new int[] {deeds, s == ALL ? 24 : 2, terms, laws, 4, 0}[what]);
            wrong(s, "shelf", (g, a) -> g.shelf(a[0], a[1], a[2]), new int[] {3, what, 0}, not(4), not(6), what == 5 ? new int[0] : none);
        }
        wrong(s, "taken", (g, a) -> g.taken(a[0], a[1]), new int[] {0, 0}, not(4), new int[] {MIN, -1, 7, 8, 9, 14, MAX});
        wrong(s, "many", (g, a) -> g.many(a[0]), new int[] {0}, not(11));
    }

    private static void ofSome() {
        Twins.Story s = SOME;
        refused(s, "law ahead of the deed's day", (g, a) -> g.law(1, 2), BAD);
        refused(s, "no law", (g, a) -> g.range(3, 0, 0), NONE);
        refused(s, "one stands", (g, a) -> g.term(3, 0, 0, 0), STATE);
        refused(s, "one stands, wrong", (g, a) -> g.term(3, 5, 0, 0), BAD);
        refused(s, "it doesn't stand", (g, a) -> g.appeal(0), STATE);
        refused(s, "no term stood then", (g, a) -> g.deedOf(2, 19, 5), NONE);
        refused(s, "no release then", (g, a) -> g.release(1, 6), NONE);
        refused(s, "row 3", (g, a) -> g.row(3, 0), NO_ROW);
        refused(s, "row what 3", (g, a) -> g.row(0, 3), NO_ROW);
        refused(s, "alter row 3", (g, a) -> g.alterRow(3, 0, 7), NO_ROW);
        refused(s, "alter row -1", (g, a) -> g.alterRow(-1, 0, 7), NO_ROW);
        refused(s, "alter row what 3", (g, a) -> g.alterRow(0, 3, 7), NO_ROW);
        refused(s, "alter row what -1", (g, a) -> g.alterRow(1, -1, 7), NO_ROW);
        refused(s, "it is not told", (g, a) -> g.spread(2, 20, 3), STATE);
        refused(s, "it is not told, another what", (g, a) -> g.spread(2, 20, 5), BAD);
        refused(s, "no other one", (g, a) -> g.like(0, 0), NONE);
        for (int sheet = 0; sheet < 4; sheet++) {
            refused(s, "n -1", (g, a) -> g.sheet(a[0], 2, -1), BELOW, sheet);
            refused(s, "n min", (g, a) -> g.sheet(a[0], 0, MIN), BELOW, sheet);
            refused(s, "n -1, another sort", (g, a) -> g.sheet(a[0], 4, -1), BAD, sheet);
        }
        refused(s, "put on nothing", (g, a) -> g.put(2, 0, 1), NOTHING);
        refused(s, "put on nothing, outside", (g, a) -> g.put(2, -1, 1), NOTHING);
        refused(s, "put outside", (g, a) -> g.put(0, 3, 1), OUTSIDE);
        refused(s, "put outside -1", (g, a) -> g.put(1, -1, 1), OUTSIDE);
        refused(s, "item of nothing", (g, a) -> g.item(2, 2, 0), NOTHING);
        refused(s, "item of another sort, outside", (g, a) -> g.item(0, 1, 9), OTHER);
        refused(s, "item outside", (g, a) -> g.item(0, 0, 3), OUTSIDE);
        refused(s, "comes from nothing", (g, a) -> g.comes(0, 2, 0, 0), NOTHING);
        refused(s, "comes from another sort", (g, a) -> g.comes(0, 0, 0, 2), OTHER);
        refused(s, "comes from outside", (g, a) -> g.comes(0, 1, 5, 2), OUTSIDE);
        refused(s, "comes from outside -1", (g, a) -> g.comes(0, 1, -1, 2), OUTSIDE);
        refused(s, "comes without any", (g, a) -> g.comes(0, 1, 0, 0), 0);
        refused(s, "comes with no facts alone", (g, a) -> g.comes(0, 1, 4, 1), 0);
        refused(s, "taken for a law", (g, a) -> g.taken(0, 6), OTHER);
        refused(s, "taken for ints", (g, a) -> g.taken(2, 12), OTHER);
        refused(s, "nothing taken", (g, a) -> g.taken(3, 6), NOTHING);
        refused(s, "body 7", (g, a) -> g.trace(7), NONE);
        refused(s, "body -1", (g, a) -> g.trace(-1), NONE);
    }

    private static void ofAll() {
        Twins.Story s = ALL;
        int[] days = {1, 2000};
        for (int n : days) refused(s, "days", (g, a) -> g.days(a[0]), STATE, n);
        refused(s, "person", (g, a) -> g.person(0, 0), FULL);
        refused(s, "deed", (g, a) -> g.deed(0, 0, 0), FULL);
        refused(s, "deed on the last day", (g, a) -> g.deed(7, 5, 9999), FULL);
        refused(s, "finding", (g, a) -> g.finding(0, 0, false), FULL);
        for (int n = 1; n <= 8; n++) refused(s, "feed", (g, a) -> g.feed(0x3b3b3b3b3b3b3b3bL, a[0]), FULL, n);
        refused(s, "term, one stands", (g, a) -> g.term(0, 0, 0, 0), STATE);
        refused(s, "term", (g, a) -> g.term(15, 0, 0, 0), FULL);
        refused(s, "term, wrong", (g, a) -> g.term(15, 0, 0, 2), BAD);
        refused(s, "appeal, it doesn't stand", (g, a) -> g.appeal(15), STATE);
        refused(s, "held", (g, a) -> g.held(0, 0, 9999), FULL);
        int[] good = {1, 99};
        for (int n : good) refused(s, "good", (g, a) -> g.good(0, a[0]), STATE, n);
        refused(s, "release without terms", (g, a) -> g.release(5, 9999), NONE);
        refused(s, "comes", (g, a) -> g.comes(0, 1, 0, 1), FULL);
        refused(s, "comes of another sort", (g, a) -> g.comes(0, 0, 0, 1), OTHER);
        refused(s, "comes from outside", (g, a) -> g.comes(0, 1, 40, 1), OUTSIDE);
        refused(s, "put outside", (g, a) -> g.put(3, 40, 1), OUTSIDE);
        refused(s, "item outside", (g, a) -> g.item(3, 3, 40), OUTSIDE);
        refused(s, "sheet below 0", (g, a) -> g.sheet(3, 3, -1), BELOW);
    }

    /** What differs by a refused read() is THE TAPE alone: the twin's is used up by a read() of its own. */
    private static void tapeIsUsedUp() {
        String[] texts = {"old", "old 91;", "back;".repeat(13), "up 1 if (((((young)))));", ";", "grave 0 1;points 1 9;old 5", "up 1 if young"};
        int[] places = {3, 4, 60, 12, 0, 26, 13};
        Twins.Story someWithoutTape = g -> {
            some(g);
            if (g.read() != -111) Check.due("read of a text that ends too early", 0, -111);
        };
        Twins.unchanged("nothing", someWithoutTape, g -> 0, 0);
        for (int i = 0; i < texts.length; i++) {
            String text = texts[i];
            Twins.unchanged("read '" + text + "'", someWithoutTape, g -> Check.read(g, text), -100 - places[i]);
        }
        Twins.Story allWithoutTape = g -> {
            all(g);
            if (g.read() != FULL) Check.due("read of a seventh", 0, FULL);
        };
        Twins.unchanged("read of a seventh", allWithoutTape, g -> Check.read(g, "grave 0 1;"), FULL);
        Twins.unchanged("read of a seventh, empty", allWithoutTape, g -> g.read(), FULL);
        for (int i = 0; i < texts.length; i++) {
            String text = texts[i];
            Twins.unchanged("read of a seventh '" + text + "'", allWithoutTape, g -> Check.read(g, text), -100 - places[i]);
        }
    }
}
