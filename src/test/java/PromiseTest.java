import java.util.function.IntUnaryOperator;

/** For each promise of the document calls with the answers that are due: ordinary ones, edges, wrong ones. */
public final class PromiseTest {
    private static final int BAD = -1, FULL = -2, NONE = -3, STATE = -4;
    private static final int MIN = Integer.MIN_VALUE, MAX = Integer.MAX_VALUE;
    private static PenaltyGrid g;

    public static void main(String[] args) {
        IntUnaryOperator[] parts = {
            PromiseTest::newObject, PromiseTest::days, PromiseTest::person, PromiseTest::age, PromiseTest::deed,
            PromiseTest::finding, PromiseTest::deedOf, PromiseTest::feed, PromiseTest::read, PromiseTest::faults,
            PromiseTest::conditions, PromiseTest::version, PromiseTest::law, PromiseTest::points, PromiseTest::grave,
            PromiseTest::range, PromiseTest::term, PromiseTest::appeal, PromiseTest::amiss, PromiseTest::held,
            PromiseTest::credit, PromiseTest::good, PromiseTest::release, PromiseTest::beds, PromiseTest::prove,
            PromiseTest::row, PromiseTest::alterRow, PromiseTest::judge, PromiseTest::spread, PromiseTest::another,
            PromiseTest::like, PromiseTest::sheet, PromiseTest::put, PromiseTest::item, PromiseTest::comes,
            PromiseTest::shelf, PromiseTest::taken, PromiseTest::act, PromiseTest::trace, PromiseTest::many,
            PromiseTest::keepAndAgain,
        };
        for (IntUnaryOperator part : parts) {
            g = new PenaltyGrid();
            part.applyAsInt(0);
        }
        Check.end();
    }

    private static void due(String call, long got, long want) {
        Check.due(call, got, want);
    }

    /** A new object with a person of 20 years, born on a day so that the years begin on day 0. */
    private static void begin() {
        g = new PenaltyGrid();
        g.person(20, 0);
    }

    private static int read(String text) {
        return Check.read(g, text);
    }

    // 1
    private static int newObject(int x) {
        for (int what = 0; what <= 10; what++) due("new many " + what, g.many(what), 0);
        due("new again", g.again(), NONE);
        due("new trace", g.trace(0), NONE);
        due("new judge", g.judge(), 0);
        due("new row", g.row(0, 0), -9);
        due("new shelf", g.taken(0, 0), -11);
        due("new sheet", g.item(0, 0, 0), -11);
        due("new person", g.age(0, 0), BAD);
        return 0;
    }

    // 2
    private static int days(int x) {
        due("days 0", g.days(0), BAD);
        due("days -1", g.days(-1), BAD);
        due("days 2001", g.days(2001), BAD);
        due("days max", g.days(MAX), BAD);
        due("days min", g.days(MIN), BAD);
        due("days 1", g.days(1), 1);
        for (int i = 1; i < 5; i++) due("days 2000", g.days(2000), 1 + 2000 * i);
        due("days over", g.days(1999), STATE);
        due("days to the last", g.days(1998), 9999);
        due("days behind the last", g.days(1), STATE);
        due("now", g.many(0), 9999);
        return 0;
    }

    // 3
    private static int person(int x) {
        due("person -1", g.person(-1, 0), BAD);
        due("person 91", g.person(91, 0), BAD);
        due("person days -1", g.person(0, -1), BAD);
        due("person days 360", g.person(0, 360), BAD);
        due("person 90 359", g.person(90, 359), 0);
        for (int i = 1; i < 8; i++) due("person " + i, g.person(0, 0), i);
        due("ninth person", g.person(0, 0), FULL);
        due("ninth person, wrong", g.person(91, 0), BAD);
        due("persons", g.many(1), 8);
        return 0;
    }

    // 4
    private static int age(int x) {
        g.person(17, 1);
        due("age", g.age(0, 0), 17);
        due("age the day ahead", g.age(0, 358), 17);
        due("age on the day", g.age(0, 359), 18);
        due("age last", g.age(0, 9999), (17 * 360 + 1 + 9999) / 360);
        due("age day -1", g.age(0, -1), BAD);
        due("age day 10000", g.age(0, 10000), BAD);
        due("age of none", g.age(1, 0), BAD);
        due("age of -1", g.age(-1, 0), BAD);
        due("age of min", g.age(MIN, 0), BAD);
        return 0;
    }

    // 5
    private static int deed(int x) {
        begin();
        g.days(10);
        due("deed of none", g.deed(1, 0, 0), BAD);
        due("deed kind -1", g.deed(0, -1, 0), BAD);
        due("deed kind 6", g.deed(0, 6, 0), BAD);
        due("deed day -1", g.deed(0, 0, -1), BAD);
        due("deed behind now", g.deed(0, 0, 11), BAD);
        due("deed now", g.deed(0, 5, 10), 0);
        for (int i = 1; i < 16; i++) due("deed " + i, g.deed(0, i % 6, i % 10), i);
        due("deed 17", g.deed(0, 0, 0), FULL);
        due("deed 17, wrong", g.deed(0, 0, 11), BAD);
        due("deeds", g.many(2), 16);
        return 0;
    }

    // 6
    private static int finding(int x) {
        begin();
        g.deed(0, 0, 0);
        due("finding of none", g.finding(1, 0, false), BAD);
        due("finding of -1", g.finding(-1, 0, false), BAD);
        due("finding facts -1", g.finding(0, -1, false), BAD);
        due("finding facts 16", g.finding(0, 16, false), BAD);
        for (int i = 0; i < 24; i++) due("finding " + i, g.finding(0, i % 16, true), i);
        due("finding 25", g.finding(0, 0, false), FULL);
        due("finding 25, wrong", g.finding(0, 16, false), BAD);
        due("findings", g.many(3), 24);
        due("facts of the latest", g.deedOf(0, 0, 3), 7);
        return 0;
    }

    // 7
    private static int deedOf(int x) {
        begin();
        g.person(10, 0);
        g.days(5);
        g.deed(1, 3, 2);
        g.deed(0, 4, 5);
        due("deedOf none", g.deedOf(2, 0, 0), BAD);
        due("deedOf -1", g.deedOf(-1, 0, 0), BAD);
        due("deedOf k -1", g.deedOf(0, -1, 0), BAD);
        due("deedOf k 10000", g.deedOf(0, 10000, 0), BAD);
        due("deedOf what 6", g.deedOf(0, 0, 6), BAD);
        due("deedOf what -1", g.deedOf(0, 0, -1), BAD);
        due("deedOf person", g.deedOf(0, 0, 0), 1);
        due("deedOf kind", g.deedOf(0, 0, 1), 3);
        due("deedOf day", g.deedOf(0, 0, 2), 2);
        due("deedOf facts, none", g.deedOf(0, 9999, 3), 0);
        due("deedOf pleaded, none", g.deedOf(0, 9999, 4), 0);
        due("deedOf term, none", g.deedOf(0, 9999, 5), NONE);
        g.finding(0, 9, true);
        g.finding(1, 15, true);
        due("facts ahead of the finding", g.deedOf(0, 4, 3), 0);
        due("facts on its day", g.deedOf(0, 5, 3), 9);
        due("pleaded on its day", g.deedOf(0, 5, 4), 1);
        due("pleaded ahead of it", g.deedOf(0, 4, 4), 0);
        g.finding(0, 6, false);
        due("facts of the later one of a day", g.deedOf(0, 5, 3), 6);
        due("not pleaded by the later one", g.deedOf(0, 5, 4), 0);
        due("facts of the other deed", g.deedOf(1, 5, 3), 15);
        g.term(0, 0, 1, 0);
        g.days(5);
        g.appeal(0);
        g.term(0, 0, 1, 0);
        due("term ahead of it", g.deedOf(0, 4, 5), NONE);
        due("term from its day on", g.deedOf(0, 5, 5), 0);
        due("term the day ahead of the appeal", g.deedOf(0, 9, 5), 0);
        due("term from the appeal on", g.deedOf(0, 10, 5), 1);
        due("term behind now", g.deedOf(0, 9999, 5), 1);
        due("term of the other deed", g.deedOf(1, 9999, 5), NONE);
        return 0;
    }

    // 8
    private static int feed(int x) {
        due("feed 0", g.feed(1, 0), BAD);
        due("feed -1", g.feed(1, -1), BAD);
        due("feed 9", g.feed(1, 9), BAD);
        due("feed 1", g.feed(';', 1), 1);
        g.read();
        for (int i = 1; i <= 31; i++) due("feed " + i, g.feed(0x2020202020202020L, 8), 8 * i);
        due("feed over 250", g.feed(0x2020202020202020L, 3), FULL);
        due("the tape stays", g.many(9), 248);
        due("feed up to 250", g.feed(0x2020202020202020L, 2), 250);
        due("feed on a full tape", g.feed(0x2020, 1), FULL);
        due("feed on a full tape, wrong", g.feed(0x2020, 9), BAD);
        due("a tape of blanks is a law without lines", g.read(), 0);
        due("the lowest byte comes first", g.feed('o' | 'l' << 8 | (long) 'd' << 16 | 0xff00000000L, 4), 4);
        g.feed(' ' | '7' << 8 | ';' << 16, 3);
        due("a byte 0 is no blank", g.read(), -103);
        return 0;
    }

    // 9
    private static int read(int x) {
        due("empty", g.read(), 0);
        due("lines without blanks", read("grave0 3;points 1 2;old5;range 1 2 3to4;up2if weapon;down 1if not(kind=1);beside if young;back;"), 1);
        due("lines", g.version(1, 0), 8);
        due("many blanks", read("   old   7   ;   "), 2);
        due("the tape is used up", g.many(9), 0);
        due("a fault", read("old"), -103);
        due("the tape is used up by a fault", g.many(9), 0);
        due("leading noughts", read("old 007;"), 3);
        due("least and most alike", read("range 4 3 240 to 240;"), 4);
        due("edges", read("grave 5 9;points 5 9;old 90;up 4 if 999=0;down 0 if 000<999;"), 5);
        due("full", read("back;"), FULL);
        due("the tape is used up when full", g.many(9), 0);
        due("a fault goes ahead of full", read("back"), -104);
        due("versions", g.many(4), 6);
        return 0;
    }

    private static void fault(String text, int place) {
        due("fault of '" + text + "'", read(text), -100 - place);
    }

    private static int faults(int x) {
        fault("gra ve 0 1;", 0);
        fault("graves 0 1;", 0);
        fault("grav", 0);
        fault("Grave 0 1;", 0);
        fault("oldz 1;", 0);
        fault("olda 1;", 0);
        fault("zold 1;", 0);
        fault("old1z;", 4);
        fault("old {1;", 4);
        fault("old `;", 4);
        fault("old /1;", 4);
        fault("old :;", 4);
        fault(";", 0);
        fault("7;", 0);
        fault(" \t", 1);
        fault("old 5; \n", 7);
        fault("grave", 5);
        fault("grave ", 6);
        fault("grave ;", 6);
        fault("grave 6 1;", 6);
        fault("grave 0 10;", 8);
        fault("grave 0 1 1;", 10);
        fault("grave 0001 1;", 6);
        fault("points 5 10;", 9);
        fault("old 91;", 4);
        fault("old 0090;", 4);
        fault("old 90", 6);
        fault("old 90 old 5;", 7);
        fault("old -5;", 4);
        fault("range 5 0 0 to 0;", 6);
        fault("range 0 4 0 to 0;", 8);
        fault("range 0 0 241 to 0;", 10);
        fault("range 0 0 5 6;", 12);
        fault("range 0 0 5 to 4;", 15);
        fault("range 0 0 5 to 241;", 15);
        fault("range 0 0 5 to ;", 15);
        fault("up 5 if young;", 3);
        fault("up 1 young;", 5);
        fault("up 1 if ;", 8);
        fault("up 1 if", 7);
        fault("up 1 if young", 13);
        fault("up 1 if young and", 17);
        fault("up 1 if young and or", 18);
        fault("up 1 if young not pleaded;", 14);
        fault("up 1 if young young;", 14);
        fault("up 1 if 1 and 2;", 10);
        fault("up 1 if 1 + ;", 12);
        fault("up 1 if 1 < 2 < 3;", 14);
        fault("up 1 if 1000 < 2;", 8);
        fault("up 1 if 0999 < 2;", 8);
        fault("up 1 if weapon < 2;", 15);
        fault("up 1 if (1) < 2;", 10);
        fault("up 1 if (young;", 14);
        fault("up 1 if young);", 13);
        fault("up 1 if ();", 9);
        fault("up 1 if not;", 11);
        fault("up 1 if old < 2;", 8);
        fault("up 1 if grave < 2;", 8);
        fault("beside young;", 7);
        fault("beside 1 if young;", 7);
        fault("back 1;", 5);
        fault("back if young;", 5);
        fault("up 1 if (((((young)))));", 12);
        fault("down 1 if (((((young)))));", 14);
        fault("beside if (((((young)))));", 14);
        fault("up 1 if not (not (not (not (not (young)))));", 32);
        fault("up 1 if ((((young)))) and ((((hurt and (gave)))));", 39);
        fault("old 1;old 1;old 1;old 1;old 1;old 1;old 1;old 1;old 1;old 1;old 1;old 1; old", 73);
        fault("old 1;old 1;old 1;old 1;old 1;old 1;old 1;old 1;old 1;old 1;old 1;old 1;5", 72);
        fault("old " + (char) 0xb5, 4);
        fault("up 1 if young" + (char) 0xe1 + ";", 13);
        due("no version by faults", g.many(4), 0);
        due("four open beside one another", read("up 1 if ((((young)))) and ((((hurt))));"), 0);
        due("four open behind down and beside", read("down 0 if ((((1<2)))); beside if ((((young))));grave 0 0;points 0 0;"), 1);
        due("twelve lines", read("old 1;old 1;old 1;old 1;old 1;old 1;old 1;old 1;old 1;old 1;old 1;old 1; "), 2);
        StringBuilder long250 = new StringBuilder("up 1 if 1");
        while (long250.length() < 246) long250.append("+1");
        due("a text of 250 bytes", read(long250 + "=1;"), 3);
        fault(long250 + "=1", 249);
        fault(long250 + "+1", 249);
        fault(long250 + "+1+", 250);
        long250.setLength(0);
        while (long250.length() < 244) long250.append("not ");
        fault("up 1 if " + long250.substring(0, 240), 248);
        return 0;
    }

    /** Grave of a fresh deed of kind 0, which is up by 1 if a condition holds. */
    private static int holds(String cond) {
        begin();
        g.person(17, 359);
        g.deed(1, 3, 0);
        g.deed(0, 2, 0);
        g.finding(0, 5, true);
        due("condition " + cond, read("up 1 if " + cond + ";"), 0);
        return g.grave(0, 0, 0) + 10 * g.grave(1, 0, 0);
    }

    private static int conditions(int x) {
        due("weapon", holds("weapon"), 1);
        due("hurt", holds("hurt"), 0);
        due("helped", holds("helped"), 1);
        due("gave", holds("gave"), 0);
        due("young", holds("young"), 1);
        due("pleaded", holds("pleaded"), 1);
        due("not", holds("not hurt"), 11);
        due("not not", holds("not not weapon"), 1);
        due("kind", holds("kind = 2"), 10);
        due("age", holds("age = 20"), 10);
        due("age below", holds("age < 18"), 1);
        due("points", holds("points = 0"), 11);
        due("more", holds("kind > 2"), 1);
        due("not more", holds("kind > 3"), 0);
        due("less", holds("kind < 3"), 10);
        due("sums", holds("kind + age + 1 = 1 + 20"), 1);
        due("sums otherwise", holds("3 + kind < 5 + points + 1"), 10);
        due("and binds closer than or", holds("weapon or hurt and gave"), 1);
        due("and binds closer than or, left", holds("hurt and gave or weapon"), 1);
        due("or in brackets", holds("(weapon or hurt) and gave"), 0);
        due("not binds closest", holds("not weapon or weapon"), 11);
        due("not of a comparison", holds("not kind = 2"), 1);
        due("not of brackets", holds("not (weapon and young)"), 10);
        due("many ors", holds("hurt or gave or hurt or weapon"), 1);
        due("many ands", holds("weapon and young and pleaded and hurt"), 0);
        due("deep", holds("1=2 or 1=1 and (1=2 or 1=1 and (1=2 or 1=1 and (1=2 or 1=1 and (1=2 or 1=1 and 1+1<1+1+kind))))"), 11);
        begin();
        g.person(18, 0);
        g.person(17, 359);
        g.days(1);
        g.deed(1, 0, 0);
        g.deed(2, 0, 0);
        g.deed(2, 0, 1);
        read("up 1 if young;");
        for (int i = 0; i < 3; i++) due("young below 18 alone", g.grave(i, 0, 0), i == 1 ? 1 : 0);
        return 0;
    }

    // 10
    private static int version(int x) {
        due("version of none", g.version(0, 0), BAD);
        g.days(9);
        read("back;grave 0 1;points 0 1;old 1;range 0 0 0 to 0;up 1 if young;down 1 if young;beside if young;");
        read("old 1;");
        int[] sorts = {7, 0, 1, 2, 3, 4, 5, 6};
        due("lines", g.version(0, 0), 8);
        due("day", g.version(0, 1), 9);
        due("back", g.version(0, 2), 1);
        due("no back", g.version(1, 2), 0);
        for (int i = 0; i < 8; i++) due("sort " + i, g.version(0, 10 + i), sorts[i]);
        due("no line", g.version(0, 18), BAD);
        due("what 3", g.version(0, 3), BAD);
        due("what 9", g.version(0, 9), BAD);
        due("what -1", g.version(0, -1), BAD);
        due("what max", g.version(0, MAX), BAD);
        due("what min", g.version(0, MIN), BAD);
        due("version 2", g.version(2, 0), BAD);
        due("version -1", g.version(-1, 0), BAD);
        return 0;
    }

    // 11
    private static int law(int x) {
        begin();
        g.days(10);
        g.deed(0, 0, 5);
        g.deed(0, 0, 10);
        due("law of none", g.law(2, 10), BAD);
        due("law day 10000", g.law(0, 10000), BAD);
        due("law ahead of the deed", g.law(0, 4), BAD);
        due("no law", g.law(0, 10), NONE);
        read("old 1;");
        due("read behind the deed", g.law(0, 10), NONE);
        due("read on its day", g.law(1, 10), 0);
        read("old 2;");
        due("the later one of a day", g.law(1, 10), 1);
        g.days(10);
        read("back;");
        due("looks back", g.law(0, 20), 2);
        due("looks back, judged ahead of it", g.law(0, 19), NONE);
        due("looks back to the next deed", g.law(1, 20), 2);
        due("judged ahead of it", g.law(1, 19), 1);
        read("old 3;");
        due("the latest that looks back", g.law(1, 9999), 2);
        g.deed(0, 0, 20);
        due("in force though one ahead looks back", g.law(2, 20), 3);
        g.days(1);
        read("back;");
        read("back;");
        due("the latest of two that look back", g.law(0, 21), 5);
        due("a back law in force on the day itself", g.law(2, 20), 3);
        due("of a later one for it", g.law(2, 21), 5);
        return 0;
    }

    // 12
    private static int points(int x) {
        begin();
        g.person(30, 0);
        read("points 0 4;points 1 3;points 2 2;old 1;points 2 5;");
        g.days(2000);
        g.deed(0, 0, 1000);
        g.deed(0, 1, 1500);
        g.deed(0, 2, 1641);
        g.deed(0, 2, 1640);
        g.deed(1, 0, 1900);
        g.term(0, 0, 1, 0);
        g.term(1, 0, 1, 0);
        g.term(2, 0, 1, 0);
        g.term(3, 0, 1, 0);
        g.term(4, 0, 1, 0);
        g.deed(0, 0, 2000);
        due("terms passed on its day don't count", g.points(5, 0, 2000), 0);
        g.days(1);
        g.deed(0, 0, 2001);
        due("old 1: 360 days ahead counts, 361 not", g.points(6, 0, 2001), 5);
        due("known ahead of the terms", g.points(6, 0, 1999), 0);
        due("of another person", g.points(4, 0, 2001), 0);
        due("its own doesn't count, later ones don't", g.points(2, 0, 2001), 0);
        read("points 0 4;points 1 3;points 2 2;");
        due("old 90", g.points(6, 1, 2001), 4 + 3 + 2 + 2);
        read("points 0 4;old 1;old 2;");
        due("the latest old, no points of other kinds", g.points(6, 2, 2001), 0);
        read("points 1 9;old 2;");
        due("old 2", g.points(6, 3, 2001), 9);
        read("points 0 4;points 1 1;old 0;");
        due("old 0", g.points(6, 4, 2001), 0);
        g.appeal(2);
        due("unwound", g.points(6, 1, 2001), 4 + 3 + 2);
        due("unwound later", g.points(6, 1, 2000), 4 + 3 + 2 + 2);
        due("points of none", g.points(7, 0, 0), BAD);
        due("points by none", g.points(0, 5, 0), BAD);
        due("points by -1", g.points(0, -1, 0), BAD);
        due("points k -1", g.points(0, 0, -1), BAD);
        due("points k 10000", g.points(0, 0, 10000), BAD);
        return 0;
    }

    // 13
    private static int grave(int x) {
        begin();
        g.deed(0, 1, 0);
        read("grave 1 2;grave 1 3;up 1 if weapon;down 2 if pleaded;up 4 if hurt;down 4 if gave;");
        due("the latest grave", g.grave(0, 0, 0), 3);
        g.finding(0, 1, false);
        due("up", g.grave(0, 0, 0), 4);
        g.finding(0, 3, false);
        due("4 at most", g.grave(0, 0, 0), 4);
        g.finding(0, 11, true);
        due("all ups and downs, then cut", g.grave(0, 0, 0), 3 + 1 - 2 + 4 - 4);
        g.finding(0, 8, false);
        due("0 at least", g.grave(0, 0, 0), 0);
        read("up 2 if not young;");
        due("grave 0 without a line", g.grave(0, 1, 0), 2);
        due("grave of none", g.grave(1, 0, 0), BAD);
        due("grave by none", g.grave(0, 2, 0), BAD);
        due("grave k 10000", g.grave(0, 0, 10000), BAD);
        read("grave 1 9;down 4 if gave;");
        due("grave 9 less 4", g.grave(0, 2, 0), 4);
        read("grave 1 9;down 4 if gave;down 3 if gave;");
        due("grave 9 less 7", g.grave(0, 3, 0), 2);
        return 0;
    }

    // 14
    private static int range(int x) {
        begin();
        for (int i = 0; i < 5; i++) {
            g.deed(0, i, 0);
            g.term(i, 0, 0, 0);
        }
        g.days(1);
        g.deed(0, 5, 1);
        read("range 0 0 1 to 2;range 0 0 3 to 240;");
        due("the latest range", g.range(5, 0, 1), 3240);
        read("points 0 2;range 0 0 7 to 8;range 0 1 1 to 9;");
        due("points 2 are often 0", g.range(5, 1, 1), 7008);
        read("points 0 3;range 0 0 7 to 8;range 0 1 0 to 0;");
        due("points 3 are often 1", g.range(5, 2, 1), 0);
        read("points 0 9;points 1 9;range 0 3 240 to 240;");
        due("often 3 at most", g.range(5, 3, 1), 240240);
        due("as known ahead", g.range(5, 3, 0), 240240);
        g.appeal(0);
        due("points 9 are often 3", g.range(5, 3, 1), 240240);
        g.appeal(1);
        due("no range", g.range(5, 3, 1), NONE);
        due("no range of a grave", g.range(0, 3, 1), NONE);
        due("range of none", g.range(6, 0, 0), BAD);
        due("range by none", g.range(0, 4, 0), BAD);
        due("range k -1", g.range(0, 0, -1), BAD);
        return 0;
    }

    // 15
    private static int term(int x) {
        begin();
        for (int i = 0; i < 16; i++) g.deed(0, 0, 0);
        due("term of none", g.term(16, 0, 0, 0), BAD);
        due("term of -1", g.term(-1, 0, 0, 0), BAD);
        due("term court -1", g.term(0, -1, 0, 0), BAD);
        due("term court 5", g.term(0, 5, 0, 0), BAD);
        due("term months -1", g.term(0, 0, -1, 0), BAD);
        due("term months 241", g.term(0, 0, 241, 0), BAD);
        int[] wrong = {-1, 2, 9, 12, 20 + 2, 29, 32, 40, 41, -10, -9, MAX, MIN};
        for (int how : wrong) due("term how " + how, g.term(0, 0, 0, how), BAD);
        int[] right = {0, 1, 10, 11, 20, 21, 30, 31};
        for (int i = 0; i < 8; i++) due("term how " + right[i], g.term(i, 4, 240, right[i]), i);
        due("one stands", g.term(0, 0, 0, 0), STATE);
        for (int i = 8; i < 15; i++) g.term(i, 0, 0, 0);
        g.appeal(0);
        due("again for a deed", g.term(0, 0, 0, 0), 15);
        due("full", g.term(15, 0, 0, 0), FULL);
        due("one stands, and full", g.term(0, 0, 0, 0), STATE);
        due("wrong, and full", g.term(0, 0, 241, 0), BAD);
        due("terms", g.many(5), 16);
        due("terms that stand", g.many(6), 15);
        return 0;
    }

    // 16
    private static int appeal(int x) {
        begin();
        g.deed(0, 0, 0);
        g.deed(0, 0, 0);
        g.term(0, 0, 1, 0);
        g.term(1, 0, 1, 0);
        due("appeal of none", g.appeal(2), BAD);
        due("appeal of -1", g.appeal(-1), BAD);
        due("on the day itself", g.appeal(0), 1);
        due("it never stood", g.deedOf(0, 0, 5), NONE);
        due("twice", g.appeal(0), STATE);
        g.days(3);
        due("the other", g.appeal(1), 0);
        due("stood ahead of it", g.deedOf(1, 2, 5), 1);
        due("stands no more", g.deedOf(1, 3, 5), NONE);
        due("all are kept", g.many(5), 2);
        return 0;
    }

    // 17
    private static int amiss(int x) {
        begin();
        for (int i = 0; i < 8; i++) g.deed(0, i % 6, 0);
        g.term(7, 0, 5, 30);
        due("no law, though a reason", g.amiss(0), 1);
        due("known ahead: none is there", g.amiss(9999), 1);
        g.days(1);
        read("range 0 0 5 to 9;grave 5 1;back;");
        due("judged on the day on which it was passed", g.amiss(1), 1);
        g.term(0, 0, 4, 0);
        g.term(1, 0, 5, 1);
        g.term(2, 0, 9, 0);
        g.term(3, 0, 10, 1);
        g.term(4, 0, 10, 11);
        g.term(5, 0, 7, 30);
        due("below, above, no range", g.amiss(1), 1 | 1 << 1 | 1 << 4 | 1 << 6);
        due("known ahead", g.amiss(0), 1);
        g.days(1);
        read("back;");
        due("a later law that looks back is not for them", g.amiss(9999), 1 | 1 << 1 | 1 << 4 | 1 << 6);
        g.appeal(1);
        due("unwound", g.amiss(2), 1 | 1 << 4 | 1 << 6);
        due("unwound later", g.amiss(1), 1 | 1 << 1 | 1 << 4 | 1 << 6);
        due("amiss -1", g.amiss(-1), BAD);
        due("amiss 10000", g.amiss(10000), BAD);
        begin();
        read("range 0 0 5 to 9;range 1 0 10 to 20;up 1 if weapon;");
        g.deed(0, 0, 0);
        g.term(0, 0, 6, 0);
        due("within", g.amiss(0), 0);
        g.days(1);
        g.finding(0, 1, false);
        due("found otherwise later", g.amiss(1), 1);
        due("as it was known", g.amiss(0), 0);
        return 0;
    }

    // 18
    private static int held(int x) {
        begin();
        g.days(10);
        due("held none", g.held(1, 0, 0), BAD);
        due("held -1", g.held(-1, 0, 0), BAD);
        due("held from -1", g.held(0, -1, 0), BAD);
        due("held to ahead", g.held(0, 5, 4), BAD);
        due("held behind now", g.held(0, 0, 11), BAD);
        for (int i = 1; i <= 12; i++) due("held " + i, g.held(0, 10, 10), i);
        due("held 13", g.held(0, 0, 0), FULL);
        due("held 13, wrong", g.held(0, 0, 11), BAD);
        due("times held", g.many(7), 12);
        return 0;
    }

    // 19
    private static int credit(int x) {
        begin();
        g.person(20, 0);
        g.days(100);
        g.deed(0, 0, 0);
        g.deed(0, 0, 0);
        g.deed(1, 0, 0);
        g.held(0, 10, 19);
        g.held(0, 15, 24);
        g.held(0, 5, 5);
        g.held(0, 10, 12);
        g.held(1, 0, 50);
        g.held(0, 30, 30);
        g.held(0, 24, 25);
        due("without a term", g.credit(0, 100), 0);
        g.term(0, 0, 10, 0);
        due("each day once", g.credit(0, 100), 16 + 1 + 1);
        due("known ahead", g.credit(0, 99), 0);
        g.held(0, 90, 100);
        due("ahead of the day of the first", g.credit(0, 100), 18 + 10);
        g.days(100);
        g.held(0, 100, 120);
        g.term(1, 0, 10, 0);
        due("by the first, not the latest", g.credit(0, 200), 28);
        g.appeal(0);
        due("by the first that stands", g.credit(0, 200), 18 + 11 + 20);
        due("of the other", g.credit(1, 200), 0);
        g.term(2, 0, 10, 0);
        due("of the other, with a term", g.credit(1, 200), 51);
        due("credit of none", g.credit(2, 0), BAD);
        due("credit of -1", g.credit(-1, 0), BAD);
        due("credit k -1", g.credit(0, -1), BAD);
        due("credit k 10000", g.credit(0, 10000), BAD);
        return 0;
    }

    // 20
    private static int good(int x) {
        begin();
        g.person(20, 0);
        due("good 0", g.good(0, 0), BAD);
        due("good -1", g.good(0, -1), BAD);
        due("good 100", g.good(0, 100), BAD);
        due("good of none", g.good(2, 1), BAD);
        due("good of -1", g.good(-1, 1), BAD);
        for (int i = 1; i <= 10; i++) due("good " + i, g.good(0, 99), 99 * i);
        due("good over", g.good(0, 10), STATE);
        due("good to the most", g.good(0, 9), 999);
        due("good behind the most", g.good(0, 1), STATE);
        due("good of the other", g.good(1, 5), 5);
        return 0;
    }

    // 21
    private static int release(int x) {
        begin();
        read("beside if kind = 1;");
        for (int i = 0; i < 6; i++) g.deed(0, i == 1 || i == 2 ? 1 : 0, 0);
        due("no term", g.release(0, 0), NONE);
        g.term(0, 0, 2, 0);
        due("one", g.release(0, 0), 60);
        g.days(10);
        g.term(1, 0, 1, 0);
        due("beside, ends sooner", g.release(0, 10), 60);
        g.term(2, 0, 4, 0);
        due("beside, ends later", g.release(0, 10), 130);
        g.days(10);
        g.term(3, 0, 1, 0);
        due("behind the latest end", g.release(0, 20), 160);
        due("known ahead of it", g.release(0, 19), 130);
        due("known ahead of all but one", g.release(0, 9), 60);
        g.days(200);
        g.term(4, 0, 0, 0);
        due("0 months, all the others have ended", g.release(0, 220), 220);
        g.good(0, 99);
        due("not ahead of the day of the latest", g.release(0, 220), 220);
        due("less good days", g.release(0, 20), 160 - 99);
        g.term(5, 0, 10, 0);
        due("less good days, again", g.release(0, 220), 220 + 300 - 99);
        due("release of none", g.release(1, 0), BAD);
        due("release of -1", g.release(-1, 0), BAD);
        due("release k -1", g.release(0, -1), BAD);
        due("release k 10000", g.release(0, 10000), BAD);
        begin();
        g.days(100);
        g.held(0, 0, 100);
        g.deed(0, 0, 0);
        g.term(0, 0, 5, 0);
        due("less credit", g.release(0, 100), 100 + 150 - 100);
        g.good(0, 49);
        due("less credit and good", g.release(0, 100), 101);
        g.good(0, 2);
        due("less credit and good, cut", g.release(0, 100), 100);
        return 0;
    }

    // 22
    private static int beds(int x) {
        begin();
        g.person(30, 0);
        g.person(40, 0);
        g.deed(0, 0, 0);
        g.deed(1, 0, 0);
        g.deed(0, 0, 0);
        due("no terms", g.beds(0, 0), 0);
        g.days(10);
        g.term(0, 0, 1, 0);
        due("ahead of it", g.beds(9, 10), 0);
        due("on its day", g.beds(10, 10), 1);
        due("the last day", g.beds(39, 10), 1);
        due("on the day of release", g.beds(40, 10), 0);
        due("known ahead", g.beds(20, 9), 0);
        g.days(10);
        g.term(1, 0, 1, 0);
        g.term(2, 0, 1, 0);
        due("two", g.beds(20, 20), 2);
        due("each person once", g.beds(45, 20), 2);
        due("one goes", g.beds(50, 20), 1);
        due("both go", g.beds(70, 20), 0);
        due("the first of them alone", g.beds(19, 20), 1);
        g.appeal(0);
        due("unwound", g.beds(19, 20), 0);
        due("as it was known", g.beds(19, 19), 1);
        due("beds -1", g.beds(-1, 0), BAD);
        due("beds 10000", g.beds(10000, 0), BAD);
        due("beds k -1", g.beds(0, -1), BAD);
        due("beds k 10000", g.beds(0, 10000), BAD);
        return 0;
    }

    private static void twoTerms() {
        begin();
        g.person(30, 0);
        read("beside if weapon;");
        for (int i = 0; i < 4; i++) g.deed(i == 2 ? 1 : 0, 0, 0);
        g.days(5);
        g.term(0, 0, 2, 0);
        g.term(2, 0, 2, 0);
        g.term(1, 0, 1, 0);
        g.term(3, 0, 0, 0);
    }

    // 23
    private static int prove(int x) {
        twoTerms();
        due("prove", g.prove(0), 3);
        due("rows", g.many(8), 3);
        due("prove of none", g.prove(2), BAD);
        due("prove of -1", g.prove(-1), BAD);
        due("rows stay", g.many(8), 3);
        due("prove the other", g.prove(1), 1);
        due("row of the other", g.row(0, 0), 1);
        due("row of the first is gone", g.row(1, 0), -9);
        g.appeal(1);
        due("rows stay though unwound", g.many(8), 1);
        due("prove nothing", g.prove(1), 0);
        due("no rows", g.many(8), 0);
        return 0;
    }

    // 24
    private static int row(int x) {
        twoTerms();
        g.prove(0);
        int[] want = {0, 5, 65, 2, 65, 95, 3, 95, 95};
        for (int i = 0; i < 9; i++) due("row " + i, g.row(i / 3, i % 3), want[i]);
        due("row -1", g.row(-1, 0), -9);
        due("row 3", g.row(3, 0), -9);
        due("row what -1", g.row(0, -1), -9);
        due("row what 3", g.row(0, 3), -9);
        g.finding(1, 1, false);
        g.prove(0);
        due("found otherwise: beside", g.row(1, 1), 5);
        due("found otherwise: it ends", g.row(1, 2), 35);
        due("behind the latest end, not the last", g.row(2, 1), 65);
        return 0;
    }

    // 25
    private static int alterRow(int x) {
        twoTerms();
        g.prove(0);
        due("alter", g.alterRow(1, 1, MIN), 65);
        due("alter again", g.alterRow(1, 1, 7), MIN);
        due("altered", g.row(1, 1), 7);
        due("alter -1", g.alterRow(-1, 0, 0), -9);
        due("alter 3", g.alterRow(3, 0, 0), -9);
        due("alter what -1", g.alterRow(0, -1, 0), -9);
        due("alter what 3", g.alterRow(0, 3, 0), -9);
        due("the term stays", g.deedOf(1, 5, 5), 2);
        return 0;
    }

    private static void judged(String what, int i, int cell, int v, int want) {
        int before = g.alterRow(i, cell, v);
        due(what, g.judge(), want);
        g.alterRow(i, cell, before);
        due(what + ", altered back", g.judge(), 0);
    }

    // 26
    private static int judge(int x) {
        twoTerms();
        due("no rows", g.judge(), 0);
        g.prove(0);
        due("as proved", g.judge(), 0);
        judged("begin too early", 1, 1, 5, 2);
        judged("begin of the first", 0, 1, 6, 1);
        judged("end of the first", 0, 2, 64, 1);
        judged("end of the last", 2, 2, MAX, 3);
        judged("no such term", 0, 0, 4, 1);
        judged("term -1", 2, 0, -1, 3);
        judged("term max", 1, 0, MAX, 2);
        judged("of another person", 1, 0, 1, 2);
        judged("the first of another person", 0, 0, 1, 2);
        judged("doesn't rise", 1, 0, 0, 2);
        judged("falls", 2, 0, 0, 3);
        g.appeal(0);
        due("doesn't stand now", g.judge(), 1);
        g.alterRow(0, 0, 2);
        g.alterRow(0, 1, 5);
        g.alterRow(0, 2, 35);
        due("right by the rows ahead, then twice the same", g.judge(), 2);
        g.alterRow(1, 0, 3);
        g.alterRow(1, 1, 35);
        g.alterRow(1, 2, 35);
        due("right by the rows ahead", g.judge(), 3);
        g.prove(0);
        due("proved anew", g.judge(), 0);
        g.finding(1, 1, false);
        due("found otherwise, nothing is ahead of it", g.judge(), 0);
        twoTerms();
        g.prove(0);
        g.finding(1, 1, false);
        due("found otherwise", g.judge(), 2);
        begin();
        for (int i = 0; i < 3; i++) {
            g.deed(0, 0, 0);
            g.term(i, 0, 0, 0);
        }
        g.prove(0);
        judged("the same again, else right", 1, 0, 0, 2);
        judged("falls, else right", 2, 0, 0, 3);
        judged("one is left out: falls behind it", 1, 0, 2, 3);
        return 0;
    }

    // 27
    private static int spread(int x) {
        begin();
        int[] months = {5, 7, 7, 9, 1, 3, 2};
        for (int i = 0; i < 16; i++) g.deed(0, 0, 0);
        for (int i = 0; i < 7; i++) g.term(i, i < 3 ? 1 : 4, months[i], 1);
        g.term(7, 1, 200, 10);
        due("n", g.spread(1, 0, 0), 3);
        due("m", g.spread(1, 0, 1), 7);
        due("excess", g.spread(1, 0, 2), 1000000 + 19 * 4 - 15 * 3);
        int above = 0;
        for (int a = 0; a < 7; a++) {
            for (int b = a + 1; b < 7; b++) {
                for (int c = b + 1; c < 7; c++) if (months[a] + months[b] + months[c] >= 19) above++;
            }
        }
        due("above", g.spread(1, 0, 3), above);
        due("below", g.spread(1, 0, 4), 35);
        due("excess of the other", g.spread(4, 0, 2), 1000000 + 15 * 3 - 19 * 4);
        due("below of the other", g.spread(4, 0, 4), 35);
        due("a court without terms", g.spread(0, 0, 0), 0);
        due("it is not told", g.spread(0, 0, 2), STATE);
        due("it is not told, above", g.spread(0, 0, 3), STATE);
        due("it is not told, below", g.spread(0, 0, 4), STATE);
        due("court -1", g.spread(-1, 0, 0), BAD);
        due("court 5", g.spread(5, 0, 0), BAD);
        due("k -1", g.spread(0, -1, 0), BAD);
        due("k 10000", g.spread(0, 10000, 0), BAD);
        due("what -1", g.spread(0, 0, -1), BAD);
        due("what 5", g.spread(0, 0, 5), BAD);
        g.days(1);
        g.appeal(0);
        g.appeal(1);
        due("one is left", g.spread(1, 1, 2), STATE);
        due("one is left, n", g.spread(1, 1, 0), 1);
        due("all but one are of it", g.spread(4, 1, 2), STATE);
        due("as it was known", g.spread(1, 0, 2), 1000000 + 31);
        begin();
        for (int i = 0; i < 4; i++) {
            g.deed(0, 0, 0);
            g.term(i, i / 2, 4 - i, 1);
        }
        due("two and two: told", g.spread(0, 0, 2), 1000000 + 7 * 2 - 3 * 2);
        due("two and two: above", g.spread(0, 0, 3), 1);
        due("two and two: above of the other", g.spread(1, 0, 3), 6);
        due("two and two: below", g.spread(1, 0, 4), 6);
        begin();
        for (int i = 0; i < 16; i++) {
            g.deed(0, 0, 0);
            g.term(i, i & 1, 15 * i, 1);
        }
        due("16 terms, below", g.spread(0, 0, 4), 12870);
        due("16 terms, excess", g.spread(0, 0, 2), 1000000 - 15 * 8 * 8);
        due("16 terms, above", g.spread(0, 0, 3), eightOfSixteen(56));
        due("16 terms, above for the other", g.spread(1, 0, 3), eightOfSixteen(64));
        begin();
        for (int i = 0; i < 16; i++) {
            g.deed(0, 0, 0);
            g.term(i, i < 8 ? 2 : 3, i < 8 ? 240 : 0, 1);
        }
        due("the most excess", g.spread(2, 0, 2), 1000000 + 240 * 64);
        due("the most excess, above", g.spread(2, 0, 3), 1);
        due("the least excess, above", g.spread(3, 0, 3), 12870);
        return 0;
    }

    /** How many choices of eight of the numbers 0 to 15 have at least such a sum. */
    private static int eightOfSixteen(int least) {
        int count = 0;
        for (int set = 0; set < 65536; set++) {
            int sum = 0;
            for (int i = 0; i < 16; i++) sum += (set >> i & 1) * i;
            if (Integer.bitCount(set) == 8 && sum >= least) count++;
        }
        return count;
    }

    // 28
    private static int another(int x) {
        begin();
        for (int i = 0; i < 4; i++) g.deed(0, i, 0);
        read("range 0 0 5 to 9;range 1 0 10 to 240;grave 1 1;grave 2 2;");
        due("no terms", g.another(0, true), 0);
        g.term(0, 0, 1, 0);
        g.term(1, 0, 1, 0);
        g.term(2, 0, 1, 0);
        g.days(1);
        due("least", g.another(0, false), 15);
        due("most", g.another(0, true), 249);
        g.finding(2, 1, false);
        read("range 0 0 5 to 9;up 1 if not weapon;");
        due("as known now", g.another(1, true), 9);
        g.appeal(1);
        due("unwound", g.another(0, true), 9);
        due("another of none", g.another(2, true), BAD);
        due("another -1", g.another(-1, false), BAD);
        return 0;
    }

    // 29
    private static int like(int x) {
        begin();
        g.person(17, 0);
        g.deed(0, 0, 0);
        due("no other", g.like(0, 0), NONE);
        g.deed(0, 1, 0);
        due("no other with a term", g.like(0, 0), NONE);
        g.term(0, 0, 1, 0);
        due("its own term doesn't matter", g.like(0, 0), NONE);
        due("the other one", g.like(1, 0), 0);
        g.deed(1, 0, 0);
        g.deed(0, 0, 0);
        g.finding(3, 7, false);
        g.term(1, 0, 1, 0);
        g.term(3, 0, 1, 0);
        due("3 for another kind, 3 facts: the least number", g.like(0, 0), 1);
        g.term(2, 0, 1, 0);
        due("2 for young", g.like(0, 0), 2);
        g.days(1);
        g.finding(3, 8, true);
        due("1 for a fact", g.like(0, 1), 3);
        due("as it was known", g.like(0, 0), 2);
        due("pleaded is no fact", g.deedOf(3, 1, 4), 1);
        g.appeal(2);
        due("unwound", g.like(0, 1), 2);
        due("unwound later", g.like(0, 0), 2);
        due("like of none", g.like(4, 0), BAD);
        due("like of -1", g.like(-1, 0), BAD);
        due("like k -1", g.like(0, -1), BAD);
        due("like k 10000", g.like(0, 10000), BAD);
        likePoints();
        return 0;
    }

    private static void likePoints() {
        begin();
        g.person(20, 0);
        g.deed(0, 0, 0);
        g.term(0, 0, 1, 0);
        g.days(10);
        read("points 0 4;");
        g.deed(0, 0, 10);
        g.deed(1, 0, 10);
        g.deed(1, 1, 10);
        g.term(2, 0, 1, 0);
        g.term(3, 0, 1, 0);
        due("points 4 and 0: another kind counts less", g.like(3, 10), 0);
        due("points by no law are 0", g.like(2, 10), 0);
        due("by how much points differ", g.like(1, 10), 0);
        g.days(1);
        g.appeal(0);
        due("without it no points", g.like(1, 11), 2);
        read("points 0 1;back;");
        due("judged on k", g.like(1, 10), 0);
    }

    // 30
    private static int sheet(int x) {
        due("sheet -1", g.sheet(-1, 0, 1), BAD);
        due("sheet 4", g.sheet(4, 0, 1), BAD);
        due("sort -2", g.sheet(0, -2, 1), BAD);
        due("sort 4", g.sheet(0, 4, 1), BAD);
        due("n 41", g.sheet(0, 0, 41), BAD);
        due("n -1", g.sheet(0, 0, -1), -14);
        due("n min", g.sheet(0, 0, MIN), -14);
        due("wrong sort, n -1", g.sheet(0, 4, -1), BAD);
        due("refused: missing still", g.item(0, 0, 0), -11);
        due("n 40", g.sheet(0, 0, 40), 1);
        due("its last", g.item(0, 0, 39), 0);
        g.put(0, 3, 5);
        due("refused: it stays", g.sheet(0, 1, -1), -14);
        due("it stays", g.item(0, 0, 3), 5);
        due("anew", g.sheet(0, 0, 4), 1);
        due("all 0", g.item(0, 0, 3), 0);
        due("missing, n does not matter", g.sheet(0, -1, 41), 1);
        due("missing, n below 0", g.sheet(0, -1, -1), 1);
        due("it is missing", g.item(0, 0, 0), -11);
        due("n 0", g.sheet(3, 3, 0), 1);
        due("no items", g.item(3, 3, 0), -12);
        return 0;
    }

    // 31
    private static int put(int x) {
        due("put -1", g.put(-1, 0, 0), BAD);
        due("put 4", g.put(4, 0, 0), BAD);
        due("put on a missing one", g.put(0, 0, 0), -11);
        due("put on a missing one, outside", g.put(0, -1, 0), -11);
        for (int sort = 0; sort < 4; sort++) g.sheet(sort, sort, 2);
        due("outside", g.put(0, 2, 0), -12);
        due("outside -1", g.put(0, -1, 0), -12);
        due("outside min", g.put(0, MIN, 0), -12);
        int[][] want = {{200, -56, 200, 200, 1}, {70000, 112, 4464, 70000, 1}, {-129, 127, -129, -129, 1}, {0, 0, 0, 0, 0},
            {256, 0, 256, 256, 1}, {MIN, 0, 0, MIN, 1}, {-32769, -1, 32767, -32769, 1}};
        for (int[] row : want) {
            for (int sort = 0; sort < 4; sort++) {
                due("put " + row[0], g.put(sort, 1, row[0]), 1);
                due("item of sort " + sort + " from " + row[0], g.item(sort, sort, 1), row[1 + sort]);
                due("the one beside", g.item(sort, sort, 0), 0);
            }
        }
        return 0;
    }

    // 32
    private static int item(int x) {
        due("item -1", g.item(-1, 0, 0), BAD);
        due("item 4", g.item(4, 0, 0), BAD);
        due("item sort -1", g.item(0, -1, 0), BAD);
        due("item sort 4", g.item(0, 4, 0), BAD);
        due("item of a missing one", g.item(0, 2, 99), -11);
        g.sheet(0, 2, 3);
        for (int sort = 0; sort < 4; sort++) {
            due("item taken for " + sort, g.item(0, sort, 0), sort == 2 ? 0 : -13);
            due("item taken for " + sort + ", outside", g.item(0, sort, 3), sort == 2 ? -12 : -13);
        }
        g.sheet(0, 0, 3);
        due("bytes are no booleans", g.item(0, 3, 0), -13);
        due("outside", g.item(0, 0, -1), -12);
        g.put(0, 0, -13);
        due("as low as these", g.item(0, 0, 0), -13);
        return 0;
    }

    // 33
    private static int comes(int x) {
        begin();
        g.deed(0, 0, 0);
        g.sheet(0, 1, 6);
        int[] items = {3, 16, -1, 15, 0, 4};
        for (int i = 0; i < 6; i++) g.put(0, i, items[i]);
        g.sheet(1, 2, 6);
        due("comes of none", g.comes(1, 0, 0, 1), BAD);
        due("comes from -1", g.comes(0, -1, 0, 1), BAD);
        due("comes from 4", g.comes(0, 4, 0, 1), BAD);
        due("comes -1", g.comes(0, 0, 0, -1), BAD);
        due("comes 10", g.comes(0, 0, 0, 10), BAD);
        due("comes of another sort", g.comes(0, 1, 0, 0), -13);
        due("comes of another sort, outside", g.comes(0, 1, -5, 1), -13);
        due("comes of nothing", g.comes(0, 2, 0, 0), -11);
        due("comes 0", g.comes(0, 0, 99, 0), 0);
        due("comes", g.comes(0, 0, 0, 6), 4);
        due("findings", g.many(3), 4);
        due("the latest of them", g.deedOf(0, 0, 3), 4);
        due("none pleaded", g.deedOf(0, 0, 4), 0);
        due("what stood ahead came", g.comes(0, 0, 3, 9), -12);
        due("so many came", g.many(3), 7);
        due("outside", g.comes(0, 0, -1, 1), -12);
        due("outside max", g.comes(0, 0, MAX, 2), -12);
        due("none of these came", g.many(3), 7);
        for (int i = 0; i < 16; i++) g.finding(0, 9, true);
        due("full: what stood ahead came", g.comes(0, 0, 0, 4), FULL);
        due("one came", g.many(3), 24);
        due("it is the latest", g.deedOf(0, 0, 3), 3);
        due("full, but left out", g.comes(0, 0, 1, 2), 0);
        due("full", g.comes(0, 0, 0, 1), FULL);
        due("full ahead of the end", g.comes(0, 0, 5, 2), FULL);
        due("full, but outside", g.comes(0, 0, 6, 1), -12);
        return 0;
    }

    private static void things() {
        begin();
        g.deed(0, 3, 0);
        g.finding(0, 9, true);
        g.term(0, 2, 7, 1);
        read("old 1;old 2;");
        g.sheet(2, 1, 5);
    }

    // 34
    private static int shelf(int x) {
        things();
        due("shelf -1", g.shelf(-1, 0, 0), BAD);
        due("shelf 4", g.shelf(4, 0, 0), BAD);
        due("what -1", g.shelf(0, -1, 0), BAD);
        due("what 6", g.shelf(0, 6, 0), BAD);
        for (int what = 0; what < 4; what++) {
            due("no thing " + what, g.shelf(0, what, 1), BAD);
            due("no thing -1 " + what, g.shelf(0, what, -1), BAD);
            due("thing " + what, g.shelf(0, what, 0), 1);
            due("its number " + what, g.taken(0, 0), 0);
        }
        due("no sheet", g.shelf(0, 4, 4), BAD);
        due("no sheet -1", g.shelf(0, 4, -1), BAD);
        due("refused: it stays", g.taken(0, 6), 0);
        due("a row", g.shelf(0, 4, 2), 1);
        due("its items", g.taken(0, 11), 5);
        due("a missing row", g.shelf(0, 4, 1), 1);
        due("is nothing", g.taken(0, 11), -11);
        g.shelf(0, 0, 0);
        due("nothing", g.shelf(0, 5, -7), 1);
        due("it holds nothing", g.taken(0, 1), -11);
        return 0;
    }

    // 35
    private static int taken(int x) {
        things();
        g.person(17, 0);
        g.deed(1, 0, 0);
        g.deed(0, 0, 0);
        g.finding(0, 1, false);
        g.term(2, 0, 0, 10);
        read("");
        int[][] shelves = {{0, 0, 1}, {0, 1, 2}, {1, 1, 3}, {2, 1, 4}, {2, 0, 5}, {3, 1, 6}};
        for (int[] thing : shelves) {
            g.shelf(1, thing[0], thing[1]);
            for (int as = 0; as < 7; as++) {
                boolean is = as == 0 || as == thing[2] || as == 1 && thing[2] == 2 || as == 4 && thing[2] == 5;
                due("kind " + thing[2] + " as " + as, g.taken(1, as), is ? thing[1] : -13);
            }
            for (int as = 10; as < 14; as++) due("kind " + thing[2] + " as a row", g.taken(1, as), -13);
        }
        g.shelf(0, 4, 2);
        for (int as = 0; as < 7; as++) due("a row as " + as, g.taken(0, as), -13);
        for (int as = 10; as < 14; as++) due("a row as " + as, g.taken(0, as), as == 11 ? 5 : -13);
        g.sheet(2, 0, 9);
        due("the row that it had then", g.taken(0, 11), 5);
        g.sheet(2, -1, 0);
        due("the row that it had then, missing now", g.taken(0, 11), 5);
        int[] wrong = {-1, 7, 8, 9, 14, MIN, MAX};
        for (int as : wrong) due("as " + as, g.taken(0, as), BAD);
        due("of no shelf", g.taken(4, 0), BAD);
        due("of shelf -1", g.taken(-1, 0), BAD);
        due("nothing", g.taken(3, 0), -11);
        due("nothing as a row", g.taken(3, 10), -11);
        goneThings();
        return 0;
    }

    private static void goneThings() {
        begin();
        g.keep();
        g.deed(0, 3, 0);
        g.finding(0, 1, false);
        g.term(0, 0, 5, 0);
        read("old 1;");
        for (int i = 0; i < 4; i++) g.shelf(i, i, 0);
        g.again();
        for (int i = 0; i < 4; i++) {
            due("not there any more " + i, g.taken(i, 0), -11);
            due("no act " + i, g.act(i, 0, 1), 0);
        }
        g.deed(0, 4, 0);
        g.term(0, 0, 6, 1);
        due("one has its number again", g.taken(0, 1), 0);
        due("with its own kind", g.act(0, 0, 1), 6);
        due("a drawn one now", g.taken(2, 5), 0);
        due("a finding is none", g.taken(1, 3), -11);
    }

    private static void acts(String name, int shelf, int act, int x, int want, int... bodies) {
        due(name + " act " + act + " of " + x, g.act(shelf, act, x), want);
        due(name + " act " + act + ": bodies", g.many(10), bodies.length);
        for (int i = 0; i < bodies.length; i++) due(name + " act " + act + ": body " + i, g.trace(i), bodies[i]);
        due(name + " act " + act + ": no more", g.trace(bodies.length), NONE);
    }

    // 36
    private static int act(int x) {
        begin();
        g.person(17, 0);
        g.deed(0, 0, 0);
        g.deed(0, 5, 0);
        g.deed(1, 4, 0);
        g.finding(0, 0, false);
        g.finding(0, 12, false);
        g.term(0, 0, 0, 0);
        g.term(1, 0, 9, 0);
        g.term(2, 0, 20, 11);
        read("");
        read("old 1;old 1;old 1;");
        g.shelf(0, 0, 1);
        acts("deed", 0, 0, 10, 26, 20, 10);
        acts("deed", 0, 1, 10, 21, 11, 20, 10);
        acts("deed", 0, 2, -9, -2, 12);
        acts("deed", 0, 3, 10, 21 ^ 5, 13, 11, 20, 10);
        g.shelf(0, 0, 2);
        acts("young deed", 0, 0, 10, 26, 20, 10);
        acts("young deed", 0, 1, 10, 22 - 6, 30, 11, 20, 10, 20, 10);
        acts("young deed", 0, 2, 7, 3, 12);
        acts("young deed", 0, 3, 10, 16 ^ 4, 13, 30, 11, 20, 10, 20, 10);
        g.shelf(0, 1, 1);
        acts("finding", 0, 0, 10, 21, 10);
        acts("finding", 0, 1, 10, 9, 11, 10);
        acts("finding", 0, 2, 31, 3, 40, 12);
        acts("finding", 0, 2, 30, 2, 40, 12);
        acts("finding", 0, 2, MAX, (MAX + 2) / 11, 40, 12);
        acts("finding", 0, 3, 10, (9 ^ 12) * 5, 41, 13, 11, 10);
        g.shelf(0, 1, 0);
        acts("finding parted by 0", 0, 2, 31, -15, 40, 12);
        g.shelf(0, 2, 1);
        acts("term", 0, 0, 10, 21, 10);
        acts("term", 0, 1, 10, 21 - 9 + 30, 50, 11, 10);
        acts("term", 0, 2, 17, 2, 12);
        acts("term", 0, 3, 10, 42 ^ 9, 13, 50, 11, 10);
        g.shelf(0, 2, 2);
        acts("drawn term", 0, 0, 10, 22 ^ 6, 60, 10);
        acts("drawn term", 0, 1, 10, (22 ^ 6) - 20 + 30, 50, 11, 60, 10);
        acts("drawn term", 0, 2, 40, 1, 61, 12);
        acts("drawn term", 0, 3, 10, 26 ^ 20 ^ 0, 13, 50, 11, 60, 10);
        g.shelf(0, 3, 1);
        acts("law", 0, 0, 10, 21, 10);
        acts("law", 0, 1, 10, 18, 11, 10);
        acts("law", 0, 2, MIN, MIN / 2, 12);
        acts("law", 0, 3, 10, (18 ^ 3) + 7, 70, 13, 11, 10, 10);
        g.shelf(0, 3, 0);
        acts("law without lines", 0, 2, 5, -15, 12);
        acts("wraps", 0, 0, MAX, -2, 10);
        partedByLess();
        return 0;
    }

    /** A drawn term of as many months as its number, and a deed whose kind is 1 below its number. */
    private static void partedByLess() {
        begin();
        g.deed(0, 0, 0);
        g.deed(0, 0, 0);
        g.term(0, 0, 0, 1);
        g.shelf(0, 2, 0);
        acts("drawn term parted by 0", 0, 2, 5, -15, 61, 12);
        g.shelf(1, 0, 1);
        acts("parted by -1", 1, 2, MIN, MIN, 12);
        g.act(1, 0, 0);
        due("no such act", g.act(1, 4, 1), 0);
        due("no trace then", g.many(10), 0);
        g.act(1, 0, 0);
        due("act -1", g.act(1, -1, 1), 0);
        due("no trace then", g.trace(0), NONE);
        g.act(1, 0, 0);
        due("no such shelf", g.act(4, 0, 1), 0);
        due("no trace then", g.many(10), 0);
        g.act(1, 0, 0);
        due("shelf -1", g.act(-1, 0, 1), 0);
        due("no trace then", g.many(10), 0);
        g.act(1, 0, 0);
        due("nothing", g.act(2, 0, 1), 0);
        due("no trace then", g.many(10), 0);
        g.sheet(0, 0, 3);
        g.shelf(3, 4, 0);
        g.act(1, 0, 0);
        due("a row", g.act(3, 0, 1), 0);
        due("no trace then", g.many(10), 0);
    }

    // 37
    private static int trace(int x) {
        things();
        g.shelf(0, 0, 0);
        g.act(0, 1, 5);
        due("trace 0", g.trace(0), 11);
        due("trace 2", g.trace(2), 10);
        due("trace 3", g.trace(3), NONE);
        due("trace -1", g.trace(-1), NONE);
        due("trace max", g.trace(MAX), NONE);
        g.days(1);
        due("it stays", g.trace(1), 20);
        return 0;
    }

    // 38
    private static int many(int x) {
        things();
        g.days(4);
        g.person(1, 1);
        g.deed(0, 0, 0);
        g.deed(0, 0, 0);
        g.term(1, 0, 0, 0);
        g.appeal(1);
        g.term(1, 0, 0, 0);
        g.held(0, 0, 0);
        g.finding(0, 0, false);
        g.finding(0, 0, false);
        g.finding(0, 0, false);
        g.prove(0);
        g.feed(0, 5);
        g.shelf(0, 0, 0);
        g.act(0, 3, 1);
        int[] want = {4, 2, 3, 4, 1, 3, 2, 1, 2, 5, 4};
        for (int what = 0; what < want.length; what++) due("many " + what, g.many(what), want[what]);
        due("many -1", g.many(-1), BAD);
        due("many 11", g.many(11), BAD);
        return 0;
    }

    // 39 and 40
    private static int keepAndAgain(int x) {
        due("nothing is kept", g.again(), NONE);
        things();
        g.days(10);
        g.good(0, 5);
        g.held(0, 0, 4);
        due("keep", g.keep(), 1);
        g.days(10);
        g.person(5, 5);
        g.deed(0, 1, 15);
        g.finding(0, 6, false);
        g.appeal(0);
        g.term(0, 1, 100, 0);
        g.term(1, 1, 10, 0);
        read("back;");
        g.good(0, 50);
        g.held(0, 5, 9);
        g.prove(0);
        Check.feed(g, "old");
        g.sheet(3, 2, 2);
        g.shelf(1, 4, 3);
        g.shelf(2, 2, 2);
        g.shelf(3, 2, 0);
        g.act(3, 1, 1);
        for (int times = 0; times < 2; times++) {
            due("again", g.again(), 1);
            int[] want = {10, 1, 1, 1, 1, 1, 1, 1, 2, 3, 4};
            for (int what = 0; what < want.length; what++) due("again many " + what, g.many(what), want[what]);
            due("again: facts", g.deedOf(0, 20, 3), 9);
            due("again: the term stands", g.deedOf(0, 20, 5), 0);
            due("again: law", g.law(0, 20), 0);
            due("again: release", g.release(0, 10), 210 - 5);
            due("again: good", g.good(0, 1), 6);
            due("again: rows", g.row(1, 0), 2);
            due("again: judge", g.judge(), 1);
            due("again: the sheet", g.item(3, 2, 1), 0);
            due("again: the shelf's row", g.taken(1, 12), 2);
            due("again: the shelf's term is gone", g.taken(2, 4), -11);
            due("again: the shelf's other term", g.taken(3, 5), 0);
            due("again: trace", g.trace(0), 50);
            g.deed(0, 2, 10);
            g.term(1, 1, 10, 0);
            g.finding(0, 1, true);
            g.appeal(0);
            g.days(1);
        }
        due("keep later", g.keep(), 1);
        g.days(1);
        g.again();
        due("the latest", g.many(0), 11);
        due("the latest: its terms", g.many(6), 1);
        due("the tape goes on", g.feed(' ' | '1' << 8 | ';' << 16, 3), 6);
        due("and is read", g.read(), 1);
        due("on the day that is", g.version(1, 1), 11);
        return 0;
    }
}
