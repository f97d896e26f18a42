/** The bounds that section 6 of the document's terms tells, and the promises 30 to 40: sheets, shelves, acts, what is kept. */
public final class HostEdgeTest {
    private static final int BAD = -1, FULL = -2, NONE = -3;
    private static final int NOTHING = -11, OUTSIDE = -12, OTHER = -13, BELOW = -14, PARTED = -15;
    private static final int MIN = Integer.MIN_VALUE, MAX = Integer.MAX_VALUE;
    private static PenaltyGrid g;

    public static void main(String[] args) {
        sheetArguments();
        sheetOfFortyItems();
        sheetBecomesAll0();
        sheetIsMissing();
        putArguments();
        bytes();
        shorts();
        ints();
        booleans();
        itemArguments();
        itemsOnTheirOwn();
        itemAsLowAsRefusals();
        comesArguments();
        comesSoMany();
        comesFacts();
        comesOutside();
        comesTillFull();
        shelfArguments();
        shelfThings();
        shelfRows();
        takenArguments();
        takenForKinds();
        takenForRows();
        thingsThatAreGone();
        actArguments();
        actsOfPapers();
        actsThatWrap();
        partedBy0();
        youngWasItsPerson();
        traceOfTheLatestAct();
        manyWhat();
        fiveHundredAndTwelveCalls();
        nothingIsKept();
        keptIsAllBut();
        keptOfSeveral();
        keptThenMore();
        keptStays();
        Check.end();
    }

    private static void about(String sentence) {
        Check.about(sentence);
        begin();
    }

    private static void begin() {
        g = new PenaltyGrid();
        g.person(20, 0);
    }

    private static void due(String call, long got, long want) {
        Check.due(call, got, want);
    }

    private static int read(String text) {
        return Check.read(g, text);
    }

    private static void sheetArguments() {
        about("SHEETS 0 to 3; BAD: no such SHEET, sort, n above 40; -14");
        int[] sheets = {MIN, -1, 4, MAX};
        for (int sheet : sheets) {
            for (int sort = -1; sort <= 3; sort++) due("sheet " + sheet, g.sheet(sheet, sort, 1), BAD);
            due("sheet " + sheet + ", n below 0", g.sheet(sheet, 0, -1), BAD);
        }
        int[] sorts = {MIN, -2, 4, MAX};
        for (int sort : sorts) {
            int[] ns = {MIN, -1, 0, 40, 41};
            for (int n : ns) due("sort " + sort + ", n " + n, g.sheet(0, sort, n), BAD);
        }
        for (int sheet = 0; sheet < 4; sheet++) {
            for (int sort = 0; sort < 4; sort++) {
                due("n 41", g.sheet(sheet, sort, 41), BAD);
                due("n max", g.sheet(sheet, sort, MAX), BAD);
                due("n -1", g.sheet(sheet, sort, -1), BELOW);
                due("n min", g.sheet(sheet, sort, MIN), BELOW);
                due("it is missing as it was", g.item(sheet, sort, 0), NOTHING);
            }
        }
        for (int sheet = 0; sheet < 4; sheet++) {
            for (int sort = 0; sort < 4; sort++) {
                due("n 0", g.sheet(sheet, sort, 0), 1);
                due("n 0: no item", g.item(sheet, sort, 0), OUTSIDE);
                due("n 40", g.sheet(sheet, sort, 40), 1);
                due("n 40: the last item", g.item(sheet, sort, 39), 0);
                due("n 40: behind it", g.item(sheet, sort, 40), OUTSIDE);
            }
        }
    }

    private static void sheetOfFortyItems() {
        about("rows of bytes (sort 0), shorts (1), ints (2) or booleans (3), 40 at most");
        for (int sort = 0; sort < 4; sort++) {
            g.sheet(sort, sort, 40);
            for (int i = 0; i < 40; i++) due("put " + i, g.put(sort, i, i - 20), 1);
            due("put 40", g.put(sort, 40, 1), OUTSIDE);
            for (int i = 0; i < 40; i++) due("item " + i, g.item(sort, sort, i), sort < 3 ? i - 20 : i == 20 ? 0 : 1);
            due("item 40", g.item(sort, sort, 40), OUTSIDE);
        }
    }

    private static void sheetBecomesAll0() {
        about("A SHEET becomes a row of n of a sort, all 0");
        for (int sort = 0; sort < 4; sort++) {
            begin();
            g.sheet(1, 2, 5);
            for (int i = 0; i < 5; i++) g.put(1, i, 7);
            due("refused", g.sheet(1, sort, -1), BELOW);
            due("refused", g.sheet(1, sort, 41), BAD);
            due("it is as it was", g.item(1, 2, 4), 7);
            due("anew", g.sheet(1, sort, 9), 1);
            for (int i = 0; i < 9; i++) due("item " + i, g.item(1, sort, i), 0);
            due("item 9", g.item(1, sort, 9), OUTSIDE);
            g.put(1, 8, 1);
            due("shorter", g.sheet(1, sort, 3), 1);
            due("item 3", g.item(1, sort, 3), OUTSIDE);
            due("longer", g.sheet(1, sort, 9), 1);
            due("item 8", g.item(1, sort, 8), 0);
            due("the others are missing", g.item(0, sort, 0), NOTHING);
        }
    }

    private static void sheetIsMissing() {
        about("or missing (sort -1: n does not matter): 1");
        int[] ns = {MIN, -1, 0, 40, 41, MAX};
        for (int n : ns) {
            g.sheet(3, 0, 5);
            due("there", g.item(3, 0, 4), 0);
            due("missing, n " + n, g.sheet(3, -1, n), 1);
            due("missing", g.item(3, 0, 4), NOTHING);
            due("missing again, n " + n, g.sheet(3, -1, n), 1);
        }
        about("or missing (at first)");
        for (int sheet = 0; sheet < 4; sheet++) {
            due("put", g.put(sheet, 0, 1), NOTHING);
            for (int sort = 0; sort < 4; sort++) due("item", g.item(sheet, sort, 0), NOTHING);
        }
    }

    private static void putArguments() {
        about("put: BAD: no such SHEET; -11; -12");
        int[] sheets = {MIN, -1, 4, MAX};
        for (int sheet : sheets) {
            due("put on " + sheet, g.put(sheet, 0, 1), BAD);
            due("put on " + sheet + ", outside", g.put(sheet, -1, 1), BAD);
        }
        int[] outside = {MIN, -1, 3, 40, MAX};
        for (int i : outside) due("missing, item " + i, g.put(1, i, 1), NOTHING);
        due("missing, item 0", g.put(1, 0, 1), NOTHING);
        for (int sort = 0; sort < 4; sort++) {
            g.sheet(sort, sort, 3);
            for (int i : outside) due("item " + i, g.put(sort, i, 1), OUTSIDE);
            for (int i = 0; i < 3; i++) due("item " + i + " is as it was", g.item(sort, sort, i), 0);
            due("the first", g.put(sort, 0, 1), 1);
            due("the last", g.put(sort, 2, 1), 1);
            g.sheet(sort, sort, 0);
            due("of none", g.put(sort, 0, 1), OUTSIDE);
        }
    }

    private static void narrowed(int sort, int[][] rows) {
        begin();
        g.sheet(2, sort, 3);
        for (int[] row : rows) {
            due("put " + row[0], g.put(2, 1, row[0]), 1);
            due("item of " + row[0], g.item(2, sort, 1), row[1]);
            due("the one ahead", g.item(2, sort, 0), 0);
            due("the one behind", g.item(2, sort, 2), 0);
        }
    }

    private static void bytes() {
        about("narrowed to its sort: bytes");
        narrowed(0, new int[][] {{127, 127}, {128, -128}, {-128, -128}, {-129, 127}, {255, -1}, {256, 0}, {257, 1}, {-256, 0}, {32767, -1}, {32768, 0},
            {65535, -1}, {MAX, -1}, {MIN, 0}, {0, 0}, {-1, -1}});
    }

    private static void shorts() {
        about("narrowed to its sort: shorts");
        narrowed(1, new int[][] {{128, 128}, {32767, 32767}, {32768, -32768}, {-32768, -32768}, {-32769, 32767}, {65535, -1}, {65536, 0}, {65537, 1},
            {MAX, -1}, {MIN, 0}, {0, 0}, {-1, -1}});
    }

    private static void ints() {
        about("narrowed to its sort: ints");
        narrowed(2, new int[][] {{32768, 32768}, {65536, 65536}, {MAX, MAX}, {MIN, MIN}, {0, 0}, {-1, -1}});
    }

    private static void booleans() {
        about("narrowed to its sort (booleans: whether it isn't 0)");
        narrowed(3, new int[][] {{1, 1}, {0, 0}, {2, 1}, {0, 0}, {-1, 1}, {256, 1}, {65536, 1}, {MIN, 1}, {0, 0}, {MAX, 1}});
    }

    private static void itemArguments() {
        about("item: BAD: no such SHEET, sort; -13; -11; -12");
        int[] sheets = {MIN, -1, 4, MAX};
        for (int sheet : sheets) for (int sort = -1; sort <= 4; sort++) due("item of " + sheet, g.item(sheet, sort, 0), BAD);
        int[] sorts = {MIN, -1, 4, 10, MAX};
        int[] places = {MIN, -1, 0, 2, 3, 40, MAX};
        for (int sort : sorts) for (int i : places) due("missing, sort " + sort, g.item(0, sort, i), BAD);
        for (int sort = 0; sort < 4; sort++) for (int i : places) due("missing, sort " + sort, g.item(0, sort, i), NOTHING);
        for (int sort = 0; sort < 4; sort++) g.sheet(sort, sort, 3);
        for (int sheet = 0; sheet < 4; sheet++) {
            for (int sort : sorts) for (int i : places) due("sort " + sort, g.item(sheet, sort, i), BAD);
            for (int sort = 0; sort < 4; sort++) {
                for (int i : places) {
                    int want = sort != sheet ? OTHER : i >= 0 && i < 3 ? 0 : OUTSIDE;
                    due("sheet of sort " + sheet + " taken for " + sort + ", item " + i, g.item(sheet, sort, i), want);
                }
            }
        }
    }

    private static void itemsOnTheirOwn() {
        about("Item i becomes v: it alone");
        for (int sheet = 0; sheet < 4; sheet++) g.sheet(sheet, 2, 4);
        for (int sheet = 0; sheet < 4; sheet++) for (int i = 0; i < 4; i++) g.put(sheet, i, 10 * sheet + i);
        for (int sheet = 0; sheet < 4; sheet++) for (int i = 0; i < 4; i++) due("item", g.item(sheet, 2, i), 10 * sheet + i);
    }

    private static void itemAsLowAsRefusals() {
        about("(An item may be as low as these, too.)");
        g.sheet(0, 0, 1);
        int[] low = {BAD, NOTHING, OUTSIDE, OTHER};
        for (int v : low) {
            due("put", g.put(0, 0, v), 1);
            due("item", g.item(0, 0, 0), v);
        }
    }

    private static void comesArguments() {
        about("comes: BAD: no such DEED, SHEET, n; -13; -11 (also with n 0)");
        due("without deeds", g.comes(0, 0, 0, 0), BAD);
        g.deed(0, 0, 0);
        int[] deeds = {MIN, -1, 1, 16, MAX};
        int[] sheets = {MIN, -1, 4, MAX};
        int[] ns = {MIN, -1, 10, MAX};
        int[] places = {MIN, -1, 0, 3, MAX};
        due("missing, n 0", g.comes(0, 0, 0, 0), NOTHING);
        for (int i : places) for (int n = 0; n < 10; n++) due("missing, item " + i, g.comes(0, 0, i, n), NOTHING);
        for (int sort = 0; sort < 4; sort++) g.sheet(sort, sort, 3);
        for (int deed : deeds) for (int sheet = 0; sheet < 4; sheet++) due("deed " + deed, g.comes(deed, sheet, 0, 1), BAD);
        for (int sheet : sheets) due("sheet " + sheet, g.comes(0, sheet, 0, 1), BAD);
        for (int n : ns) for (int sheet = 0; sheet < 4; sheet++) due("n " + n, g.comes(0, sheet, 0, n), BAD);
        for (int sheet = 0; sheet < 4; sheet++) {
            if (sheet != 1) for (int i : places) for (int n = 0; n < 10; n += 3) due("other sort", g.comes(0, sheet, i, n), OTHER);
        }
        due("findings", g.many(3), 0);
    }

    private static void comesSoMany() {
        about("n (0 to 9) of them from item i on: how many came");
        g.deed(0, 0, 0);
        g.sheet(0, 1, 12);
        for (int i = 0; i < 12; i++) g.put(0, i, i);
        due("0", g.comes(0, 0, 0, 0), 0);
        int[] places = {MIN, -1, 0, 12, 13, MAX};
        for (int i : places) due("0 from " + i, g.comes(0, 0, i, 0), 0);
        due("findings", g.many(3), 0);
        due("1", g.comes(0, 0, 3, 1), 1);
        due("facts", g.deedOf(0, 0, 3), 3);
        due("9", g.comes(0, 0, 0, 9), 9);
        due("facts", g.deedOf(0, 0, 3), 8);
        due("findings", g.many(3), 10);
        due("9 to the end", g.comes(0, 0, 3, 9), 9);
        due("facts", g.deedOf(0, 0, 3), 11);
        due("1 at the end", g.comes(0, 0, 11, 1), 1);
        due("findings", g.many(3), 20);
    }

    private static void comesFacts() {
        about("numbers that are no FACTS are left out; none pleaded");
        g.deed(0, 0, 0);
        g.deed(0, 0, 0);
        g.days(5);
        g.sheet(2, 1, 9);
        int[] items = {16, -1, 15, 32767, 5, -32768, 0, 256, 17};
        for (int i = 0; i < 9; i++) g.put(2, i, items[i]);
        g.finding(1, 1, true);
        due("three of nine", g.comes(1, 2, 0, 9), 3);
        due("the latest", g.deedOf(1, 5, 3), 0);
        due("not pleaded", g.deedOf(1, 5, 4), 0);
        due("known from now on", g.deedOf(1, 4, 3), 0);
        due("one of two", g.comes(1, 2, 1, 2), 1);
        due("the latest", g.deedOf(1, 5, 3), 15);
        due("none of one", g.comes(1, 2, 0, 1), 0);
        due("none of one", g.comes(1, 2, 1, 1), 0);
        due("none of two", g.comes(1, 2, 7, 2), 0);
        due("findings", g.many(3), 5);
        due("facts of the other", g.deedOf(0, 5, 3), 0);
        g.put(2, 0, 65536 + 7);
        due("narrowed to facts", g.comes(0, 2, 0, 1), 1);
        due("facts", g.deedOf(0, 5, 3), 7);
    }

    private static void comesOutside() {
        about("-12: what stood ahead came");
        g.deed(0, 0, 0);
        g.sheet(0, 1, 3);
        for (int i = 0; i < 3; i++) g.put(0, i, i + 1);
        due("three and one more", g.comes(0, 0, 0, 4), OUTSIDE);
        due("three came", g.many(3), 3);
        due("the latest", g.deedOf(0, 0, 3), 3);
        due("one and eight more", g.comes(0, 0, 2, 9), OUTSIDE);
        due("one came", g.many(3), 4);
        int[] outside = {MIN, -9, -1, 3, 4, 40, MAX - 8, MAX};
        for (int i : outside) due("from " + i, g.comes(0, 0, i, 9), OUTSIDE);
        due("none came", g.many(3), 4);
        g.put(0, 2, 16);
        due("one, and one that is left out, and one more", g.comes(0, 0, 1, 3), OUTSIDE);
        due("one came", g.many(3), 5);
        due("the latest", g.deedOf(0, 0, 3), 2);
        g.sheet(0, 1, 0);
        due("of a row of none", g.comes(0, 0, 0, 1), OUTSIDE);
        due("0 of a row of none", g.comes(0, 0, 0, 0), 0);
    }

    private static void comesTillFull() {
        about("FULL likewise: what stood ahead came");
        g.deed(0, 0, 0);
        g.deed(0, 0, 0);
        g.sheet(0, 1, 9);
        for (int i = 0; i < 9; i++) g.put(0, i, i + 1);
        for (int i = 0; i < 2; i++) due("9", g.comes(0, 0, 0, 9), 9);
        due("three", g.comes(1, 0, 0, 3), 3);
        due("three and more", g.comes(1, 0, 0, 5), FULL);
        due("three came", g.many(3), 24);
        due("the latest", g.deedOf(1, 0, 3), 3);
        due("one more", g.comes(0, 0, 5, 1), FULL);
        due("none", g.comes(0, 0, 0, 0), 0);
        due("facts of the other are as they were", g.deedOf(0, 0, 3), 9);
        due("bad", g.comes(2, 0, 0, 1), BAD);
        due("outside", g.comes(0, 0, 9, 1), OUTSIDE);
        due("missing", g.comes(0, 1, 0, 1), NOTHING);
        begin();
        g.deed(0, 0, 0);
        for (int i = 0; i < 23; i++) g.finding(0, 0, true);
        g.sheet(0, 1, 9);
        for (int i = 0; i < 9; i++) g.put(0, i, i + 1);
        due("the last place", g.comes(0, 0, 6, 1), 1);
        due("facts", g.deedOf(0, 0, 3), 7);
        due("not pleaded", g.deedOf(0, 0, 4), 0);
        due("behind it", g.comes(0, 0, 6, 1), FULL);
    }

    /** A deed, a finding, a term, a law of two lines, all of number 0; sheet 2 has five shorts. */
    private static void things() {
        begin();
        g.deed(0, 3, 0);
        g.finding(0, 9, true);
        g.term(0, 2, 7, 1);
        read("old 1;old 2;");
        g.sheet(2, 1, 5);
    }

    private static void shelfArguments() {
        about("SHELVES 0 to 3; BAD: no such SHELF, what, thing");
        things();
        int[] shelves = {MIN, -1, 4, MAX};
        for (int shelf : shelves) for (int what = 0; what < 6; what++) due("shelf " + shelf, g.shelf(shelf, what, 0), BAD);
        int[] whats = {MIN, -1, 6, MAX};
        for (int what : whats) due("what " + what, g.shelf(0, what, 0), BAD);
        int[] things = {MIN, -1, 1, 24, MAX};
        for (int what = 0; what < 4; what++) for (int n : things) due("thing " + n + " of " + what, g.shelf(0, what, n), BAD);
        int[] sheets = {MIN, -1, 4, MAX};
        for (int n : sheets) due("row of sheet " + n, g.shelf(0, 4, n), BAD);
        due("nothing as it was", g.taken(0, 0), NOTHING);
        g.shelf(0, 2, 0);
        for (int what : whats) due("what " + what, g.shelf(0, what, 0), BAD);
        for (int n : sheets) due("row of sheet " + n, g.shelf(0, 4, n), BAD);
        for (int n : things) due("thing " + n, g.shelf(0, 0, n), BAD);
        due("a term as it was", g.taken(0, 4), 0);
    }

    private static void shelfThings() {
        about("A SHELF holds DEED n (what 0), FINDING n (1), TERM n (2), VERSION n (3): 1");
        for (int i = 0; i < 16; i++) {
            g.deed(0, 0, 0);
            g.term(i, 0, 0, 1);
        }
        for (int i = 0; i < 24; i++) g.finding(0, 0, false);
        for (int i = 0; i < 6; i++) read("");
        int[] last = {15, 23, 15, 5};
        int[] as = {1, 3, 5, 6};
        for (int what = 0; what < 4; what++) {
            for (int shelf = 0; shelf < 4; shelf++) {
                due("the first of " + what, g.shelf(shelf, what, 0), 1);
                due("its number", g.taken(shelf, as[what]), 0);
                due("the last of " + what, g.shelf(shelf, what, last[what]), 1);
                due("its number", g.taken(shelf, as[what]), last[what]);
                due("behind it", g.shelf(shelf, what, last[what] + 1), BAD);
                due("its number", g.taken(shelf, as[what]), last[what]);
            }
        }
        about("or nothing (at first); nothing (5)");
        for (int shelf = 0; shelf < 4; shelf++) due("at first", g.taken(shelf, 0), NOTHING);
        things();
        int[] ns = {MIN, -1, 0, 5, MAX};
        for (int n : ns) {
            g.shelf(1, 0, 0);
            due("a deed", g.taken(1, 1), 0);
            due("nothing, n " + n, g.shelf(1, 5, n), 1);
            due("nothing", g.taken(1, 1), NOTHING);
        }
    }

    private static void shelfRows() {
        about("the row that SHEET n has now (4; nothing, if missing)");
        for (int sheet = 0; sheet < 4; sheet++) {
            begin();
            g.deed(0, 0, 0);
            g.shelf(3, 0, 0);
            due("missing", g.shelf(3, 4, sheet), 1);
            due("it holds nothing", g.taken(3, 10), NOTHING);
            due("not even a paper", g.taken(3, 0), NOTHING);
            g.sheet(sheet, 2, 0);
            due("it holds nothing still", g.taken(3, 12), NOTHING);
            due("a row of none", g.shelf(3, 4, sheet), 1);
            due("how many", g.taken(3, 12), 0);
            g.sheet(sheet, 3, 40);
            due("the row that it had then", g.taken(3, 12), 0);
            due("of another sort now", g.taken(3, 13), OTHER);
            due("a row of forty", g.shelf(3, 4, sheet), 1);
            due("how many", g.taken(3, 13), 40);
            g.sheet(sheet, -1, 0);
            due("though it is missing now", g.taken(3, 13), 40);
        }
    }

    private static void takenArguments() {
        about("taken: BAD: no such SHELF, as; -13; -11");
        int[] shelves = {MIN, -1, 4, MAX};
        int[] wrong = {MIN, -1, 7, 8, 9, 14, MAX};
        for (int shelf : shelves) {
            for (int as = 0; as < 14; as++) due("shelf " + shelf + " as " + as, g.taken(shelf, as), BAD);
        }
        things();
        g.shelf(1, 4, 2);
        g.shelf(2, 0, 0);
        for (int as : wrong) for (int shelf = 0; shelf < 4; shelf++) due("as " + as, g.taken(shelf, as), BAD);
        for (int as = 0; as < 7; as++) due("nothing as " + as, g.taken(0, as), NOTHING);
        for (int as = 10; as < 14; as++) due("nothing as " + as, g.taken(0, as), NOTHING);
    }

    private static void takenForKinds() {
        about("taken for a paper of kind as (0 to 6, or one under it): its number");
        g.person(17, 0);
        for (int i = 0; i < 3; i++) g.deed(i % 2, 0, 0);
        for (int i = 0; i < 3; i++) g.finding(0, 0, false);
        for (int i = 0; i < 3; i++) g.term(i, 0, 0, i % 2);
        for (int i = 0; i < 3; i++) read("");
        int[][] things = {{0, 1, 2, 1}, {0, 2, 1, 0}, {1, 2, 3, 0}, {2, 1, 5, 4}, {2, 2, 4, 0}, {3, 1, 6, 0}};
        for (int[] thing : things) {
            g.shelf(2, thing[0], thing[1]);
            for (int as = 0; as < 7; as++) {
                boolean is = as == 0 || as == thing[2] || as == thing[3];
                if (thing[0] == 0) is = as < 2 || as == 2 && thing[1] == 1;
                due("thing " + thing[0] + " " + thing[1] + " as " + as, g.taken(2, as), is ? thing[1] : OTHER);
            }
            for (int as = 10; as < 14; as++) due("thing " + thing[0] + " as a row", g.taken(2, as), OTHER);
        }
    }

    private static void takenForRows() {
        about("for a row of sort as - 10 (as 10 to 13): how many items");
        for (int sort = 0; sort < 4; sort++) {
            int[] sizes = {0, 1, 40};
            for (int n : sizes) {
                g.sheet(sort, sort, n);
                g.shelf(0, 4, sort);
                for (int as = 10; as < 14; as++) due("sort " + sort + " as " + as, g.taken(0, as), as == sort + 10 ? n : OTHER);
                for (int as = 0; as < 7; as++) due("sort " + sort + " as " + as, g.taken(0, as), OTHER);
            }
        }
    }

    private static void thingsThatAreGone() {
        about("one that is not there any more is nothing, till one has its number again");
        g.deed(0, 0, 0);
        g.keep();
        g.deed(0, 3, 0);
        g.finding(0, 1, false);
        g.term(1, 0, 5, 0);
        read("old 1;");
        int[] n = {1, 0, 0, 0};
        for (int what = 0; what < 4; what++) g.shelf(what, what, n[what]);
        for (int what = 0; what < 4; what++) due("there " + what, g.taken(what, 0), n[what]);
        g.again();
        for (int what = 0; what < 4; what++) {
            due("not there any more " + what, g.taken(what, 0), NOTHING);
            due("as a row " + what, g.taken(what, 10), NOTHING);
            due("no act " + what, g.act(what, 0, 1), 0);
            due("no such thing to hold " + what, g.shelf(what, what, n[what]), BAD);
        }
        g.finding(0, 0, false);
        due("a finding has its number again", g.taken(1, 3), 0);
        due("the deed still hasn't", g.taken(0, 1), NOTHING);
        g.term(0, 0, 6, 1);
        due("a term has, drawn now", g.taken(2, 5), 0);
        g.deed(0, 4, 0);
        due("a deed has", g.taken(0, 1), 1);
        due("of its own kind", g.act(0, 0, 0), 1 + 4);
        due("a law still hasn't", g.taken(3, 6), NOTHING);
        read("");
        due("a law has", g.taken(3, 6), 0);
        g.again();
        for (int what = 0; what < 4; what++) due("not there any more " + what, g.taken(what, 0), NOTHING);
        g.shelf(0, 0, 0);
        g.again();
        due("what was kept stays there", g.taken(0, 1), 0);
    }

    private static void actArguments() {
        about("0, and no TRACE then: no such SHELF, act, nothing, a row");
        things();
        g.shelf(0, 0, 0);
        g.shelf(1, 4, 2);
        int[][] wrong = {{MIN, 0}, {-1, 0}, {4, 0}, {MAX, 0}, {0, MIN}, {0, -1}, {0, 4}, {0, MAX}, {1, 0}, {1, 1}, {1, 2}, {1, 3}, {2, 0}, {2, 1}, {2, 2},
            {2, 3}, {1, 4}, {2, -1}, {4, 4}};
        for (int[] row : wrong) {
            due("an act", g.act(0, 1, 5), 10 + 3 - 3);
            due("its trace", g.many(10), 3);
            due("act " + row[1] + " of shelf " + row[0], g.act(row[0], row[1], 5), 0);
            due("no trace", g.many(10), 0);
            due("no body", g.trace(0), NONE);
        }
    }

    private static void acts(int shelf, int act, int x, int want, int... bodies) {
        String name = "act " + act + " of shelf " + shelf + " with " + x;
        due(name, g.act(shelf, act, x), want);
        due(name + ": bodies", g.many(10), bodies.length);
        for (int i = 0; i < bodies.length; i++) due(name + ": body " + i, g.trace(i), bodies[i]);
        due(name + ": no more", g.trace(bodies.length), NONE);
    }

    private static void actsOfPapers() {
        about("BODIES, each with its number: a deed, a young deed");
        g.person(17, 359);
        for (int i = 0; i < 3; i++) g.deed(0, 5, 0);
        g.deed(1, 2, 0);
        g.shelf(0, 0, 2);
        acts(0, 0, 9, 18 + 2 + 5, 20, 10);
        acts(0, 1, 9, 25 - 5, 11, 20, 10);
        acts(0, 2, 10, 3, 12);
        acts(0, 2, -10, -3, 12);
        acts(0, 3, 9, 20 ^ 5, 13, 11, 20, 10);
        g.shelf(1, 0, 3);
        acts(1, 0, 9, 18 + 3 + 2, 20, 10);
        acts(1, 1, 9, 23 - 2 - (3 + 2), 30, 11, 20, 10, 20, 10);
        acts(1, 2, 10, -10, 12);
        acts(1, 3, 9, 16 ^ 2, 13, 30, 11, 20, 10, 20, 10);
        about("BODIES, each with its number: a finding, a law");
        g.deed(0, 0, 0);
        g.finding(0, 0, false);
        g.finding(0, 13, true);
        read("");
        read("");
        read("back;back;back;back;back;");
        g.shelf(0, 1, 1);
        acts(0, 0, 9, 19, 10);
        acts(0, 1, 9, 6, 11, 10);
        acts(0, 2, 21, 1, 40, 12);
        acts(0, 2, 22, 2, 40, 12);
        acts(0, 2, -25, -1, 40, 12);
        acts(0, 3, 9, (6 ^ 13) * 5, 41, 13, 11, 10);
        g.shelf(1, 3, 2);
        acts(1, 0, 9, 20, 10);
        acts(1, 1, 9, 15, 11, 10);
        acts(1, 2, 11, 3, 12);
        acts(1, 3, 9, (15 ^ 5) + 12, 70, 13, 11, 10, 10);
        about("BODIES, each with its number: a term, a drawn term");
        for (int i = 0; i < 3; i++) g.deed(0, 0, 0);
        g.term(0, 0, 0, 0);
        g.term(1, 0, 9, 0);
        g.term(2, 0, 12, 31);
        g.shelf(0, 2, 1);
        acts(0, 0, 9, 19, 10);
        acts(0, 1, 9, 19 - 9 + 30, 50, 11, 10);
        acts(0, 2, 17, 2, 12);
        acts(0, 3, 9, 40 ^ 9, 13, 50, 11, 10);
        g.shelf(0, 2, 2);
        acts(0, 0, 9, 20 ^ 6, 60, 10);
        acts(0, 1, 9, (20 ^ 6) - 12 + 30, 50, 11, 60, 10);
        acts(0, 2, 29, 1, 61, 12);
        acts(0, 2, -29, -3, 61, 12);
        acts(0, 3, 9, 36 ^ 12, 13, 50, 11, 60, 10);
    }

    private static void actsThatWrap() {
        about("with a number x (ints that wrap)");
        g.deed(0, 0, 0);
        g.deed(0, 0, 0);
        for (int i = 0; i < 3; i++) g.finding(0, i + 1, false);
        g.term(0, 0, 240, 1);
        g.shelf(0, 0, 0);
        g.shelf(1, 1, 2);
        g.shelf(2, 2, 0);
        g.shelf(3, 0, 1);
        due("weighs the most", g.act(0, 0, MAX), -2);
        due("weighs the least", g.act(0, 0, MIN), 0);
        due("weighs 2 to the 30", g.act(0, 0, 1 << 30), MIN);
        due("weighs 1 less", g.act(0, 0, (1 << 30) - 1), MAX - 1);
        due("bars the least", g.act(1, 1, MIN + 1), 2 + 2 - 3);
        due("bars across 0", g.act(1, 1, 1 << 30), MIN + 2 - 3);
        due("a finding parts the most", g.act(1, 2, MAX), MIN + 1);
        due("a finding parts 1 less", g.act(1, 2, MAX - 1), MIN);
        due("a finding parts 2 less", g.act(1, 2, MAX - 2), MAX);
        due("a finding parts the least", g.act(1, 2, MIN), MIN + 2);
        due("a finding tells", g.act(1, 3, 1 << 29), (((1 << 30) + 2 - 3) ^ 3) * 5);
        due("a drawn term weighs", g.act(2, 0, MAX), -2 ^ 6);
        due("a drawn term bars", g.act(2, 1, 1 << 30), (MIN ^ 6) - 240 + 30);
        due("a drawn term parts", g.act(2, 2, MIN), MIN / 240 - 1);
        due("parted by -1", g.act(3, 2, MIN), MIN);
        due("parted by -1", g.act(3, 2, MAX), -MAX);
        due("parted by -1", g.act(3, 2, 0), 0);
        begin();
        g.deed(0, 0, 0);
        g.deed(0, 0, 0);
        g.term(0, 0, 5, 1);
        g.appeal(0);
        g.term(0, 0, 0, 1);
        g.shelf(0, 2, 1);
        due("a drawn term parted by -1, and 1 less", g.act(0, 2, MIN), MAX);
        begin();
        g.person(17, 0);
        g.deed(0, 5, 0);
        g.deed(1, 5, 0);
        g.term(0, 0, 0, 0);
        for (int i = 0; i < 3; i++) read("back;back;back;back;back;");
        g.shelf(0, 0, 0);
        g.shelf(1, 0, 1);
        g.shelf(2, 2, 0);
        g.shelf(3, 3, 2);
        due("a deed weighs", g.act(0, 0, (1 << 30) - 1), MIN + 3);
        due("a young deed bars", g.act(1, 1, 1 << 30), MAX - 4);
        due("a term bars", g.act(2, 1, (1 << 30) - 1), MIN + 28);
        due("a law tells", g.act(3, 3, (1 << 30) - 1), MIN + 10);
    }

    private static void partedBy0() {
        about("-15 if these are the same; that is all that act() answers then");
        for (int i = 0; i < 3; i++) g.deed(0, i, 0);
        for (int i = 0; i < 3; i++) g.finding(0, i, false);
        g.term(0, 0, 0, 0);
        g.term(1, 0, 1, 1);
        read("");
        read("back;");
        int[][] same = {{0, 0, 12, 0}, {0, 2, 12, 0}, {1, 0, 40, 12}, {1, 2, 40, 12}, {2, 0, 12, 0}, {2, 1, 61, 12}, {3, 0, 12, 0}, {3, 1, 12, 0}};
        int[] numbers = {MIN, -3, -2, -1, 0, 1, 7, MAX};
        for (int[] thing : same) {
            g.shelf(0, thing[0], thing[1]);
            for (int x : numbers) due("parts " + x + " of thing " + thing[0] + " " + thing[1], g.act(0, 2, x), PARTED);
            due("the first body", g.trace(0), thing[2]);
            due("the next body", g.trace(1), thing[3] == 0 ? NONE : thing[3]);
            due("bars is answered", g.act(0, 1, 0) == PARTED ? 1 : 0, 0);
        }
        begin();
        g.deed(0, 1, 0);
        g.deed(0, 0, 0);
        g.shelf(0, 0, 0);
        g.shelf(1, 0, 1);
        due("by 1", g.act(0, 2, 7), 7);
        due("by -1", g.act(1, 2, 7), -7);
        due("by -1 of 15", g.act(1, 2, 15), -15);
    }

    private static void youngWasItsPerson() {
        about("A DEED is young, if its PERSON was");
        g.person(17, 359);
        Check.days(g, 10);
        g.deed(1, 0, 0);
        g.deed(1, 0, 1);
        g.deed(0, 0, 0);
        int[] want = {1, 0, 0};
        for (int i = 0; i < 3; i++) {
            g.shelf(0, 0, i);
            due("young deed " + i, g.taken(0, 2), want[i] == 1 ? i : OTHER);
            due("deed " + i, g.taken(0, 1), i);
            g.act(0, 1, 0);
            due("its first body", g.trace(0), want[i] == 1 ? 30 : 11);
        }
    }

    private static void traceOfTheLatestAct() {
        about("THE TRACE's i-th body. NONE");
        int[] all = {MIN, -1, 0, 1, 29, 30, MAX};
        for (int i : all) due("at first", g.trace(i), NONE);
        g.person(10, 0);
        g.deed(1, 3, 0);
        g.finding(0, 9, false);
        g.shelf(0, 0, 0);
        g.shelf(1, 1, 0);
        g.act(0, 3, 5);
        int[] bodies = {13, 30, 11, 20, 10, 20, 10};
        due("the longest one has seven", g.many(10), 7);
        for (int i = 0; i < 7; i++) due("body " + i, g.trace(i), bodies[i]);
        int[] none = {MIN, -1, 7, 8, 29, 30, MAX};
        for (int i : none) due("body " + i, g.trace(i), NONE);
        g.days(1);
        g.again();
        g.keep();
        g.shelf(0, 5, 0);
        due("the latest act's stays", g.trace(6), 10);
        g.act(1, 2, 5);
        due("the latest act's", g.many(10), 2);
        due("the latest act's", g.trace(0), 40);
        due("the latest act's", g.trace(1), 12);
        due("no more of the one ahead", g.trace(2), NONE);
        g.act(0, 0, 5);
        due("nothing", g.many(10), 0);
    }

    private static void manyWhat() {
        about("How many: what = 0 to 10. BAD: another what");
        int[] wrong = {MIN, -1, 11, 12, MAX};
        for (int what : wrong) due("many " + what, g.many(what), BAD);
        for (int what = 0; what <= 10; what++) due("many " + what, g.many(what), what == 1 ? 1 : 0);
        things();
        g.days(4);
        g.deed(0, 0, 0);
        g.deed(0, 0, 0);
        for (int i = 0; i < 3; i++) g.finding(0, 0, false);
        g.term(1, 0, 0, 0);
        g.appeal(1);
        for (int i = 1; i < 3; i++) g.term(i, 0, 0, 0);
        for (int i = 0; i < 6; i++) g.held(0, 0, 0);
        for (int i = 0; i < 6; i++) g.person(1, 1);
        for (int i = 0; i < 4; i++) read("");
        g.prove(0);
        g.feed(0, 8);
        g.shelf(0, 0, 0);
        g.act(0, 1, 1);
        int[] want = {4, 7, 3, 4, 5, 4, 3, 6, 3, 8, 3};
        for (int what = 0; what <= 10; what++) due("many " + what, g.many(what), want[what]);
        for (int what : wrong) due("many " + what, g.many(what), BAD);
    }

    private static void fiveHundredAndTwelveCalls() {
        about("An object is used for at most 512 calls after it has been made");
        for (int call = 2; call <= 256; call++) due("call " + call, g.days(1), call - 1);
        g.deed(0, 2, 255);
        g.term(0, 1, 3, 1);
        for (int call = 259; call <= 509; call++) due("call " + call, g.release(0, 255), 345);
        due("call 510", g.finding(0, 7, true), 0);
        due("call 511", g.deedOf(0, 255, 3), 7);
        due("call 512", g.days(2000), 2255);
    }

    private static void nothingIsKept() {
        about("again: NONE: nothing is kept");
        due("of a new one", g.again(), NONE);
        things();
        g.days(3);
        due("nothing is kept", g.again(), NONE);
        int[] want = {3, 1, 1, 1, 1, 1, 1, 0, 0, 0, 0};
        for (int what = 0; what <= 10; what++) due("all is as it was: " + what, g.many(what), want[what]);
        due("keep", g.keep(), 1);
        due("something is", g.again(), 1);
        about("keep of a new object");
        g = new PenaltyGrid();
        due("keep", g.keep(), 1);
        things();
        g = new PenaltyGrid();
        g.keep();
        g.person(20, 0);
        g.days(5);
        due("again", g.again(), 1);
        for (int what = 0; what <= 10; what++) due("all is empty: " + what, g.many(what), 0);
    }

    private static void keptIsAllBut() {
        about("All but THE TAPE, ROWS, SHEETS, SHELVES, THE TRACE is kept");
        things();
        g.days(50);
        g.held(0, 0, 4);
        g.good(0, 7);
        g.term(0, 0, 0, 0);
        g.deed(0, 0, 30);
        g.term(1, 0, 2, 0);
        g.keep();
        g.days(50);
        g.person(5, 5);
        g.deed(0, 1, 99);
        g.finding(0, 6, false);
        g.appeal(0);
        g.appeal(1);
        g.term(0, 1, 100, 0);
        read("points 3 9;back;");
        g.good(0, 50);
        g.held(0, 6, 9);
        g.prove(0);
        g.alterRow(0, 1, 12345);
        Check.feed(g, "old");
        g.sheet(3, 2, 2);
        g.put(3, 1, 9);
        g.sheet(2, -1, 0);
        g.shelf(1, 4, 3);
        g.shelf(2, 0, 0);
        g.act(2, 1, 1);
        due("again", g.again(), 1);
        int[] want = {50, 1, 2, 1, 1, 2, 2, 1, 1, 3, 3};
        for (int what = 0; what <= 10; what++) due("many " + what, g.many(what), want[what]);
        due("no second person", g.age(1, 0), BAD);
        due("no third deed", g.deedOf(2, 0, 0), BAD);
        due("facts", g.deedOf(0, 9999, 3), 9);
        due("pleaded", g.deedOf(0, 9999, 4), 1);
        due("the terms stand", g.deedOf(0, 9999, 5), 0);
        due("the terms stand", g.deedOf(1, 9999, 5), 1);
        due("the law", g.law(0, 9999), 0);
        due("its lines", g.version(0, 0), 2);
        due("release", g.release(0, 9999), 210 + 60 - 7);
        due("credit", g.credit(0, 50), 0);
        due("rows aren't kept", g.row(0, 1), 12345);
        due("rows aren't kept", g.row(0, 0), 2);
        due("the row's term isn't there", g.judge(), 1);
        due("sheets aren't kept", g.item(3, 2, 1), 9);
        due("sheets aren't kept", g.item(2, 1, 0), NOTHING);
        due("shelves aren't kept", g.taken(1, 12), 2);
        due("shelves aren't kept", g.taken(2, 1), 0);
        due("the trace isn't kept", g.trace(0), 11);
        due("the tape isn't kept", g.feed(' ' | '8' << 8 | ';' << 16, 3), 6);
        due("the tape is read", g.read(), 1);
        due("read now", g.version(1, 1), 50);
        due("good", g.good(0, 1), 8);
        due("held", g.held(0, 0, 50), 2);
        due("not behind now", g.held(0, 0, 51), BAD);
        due("not behind now", g.deed(0, 0, 51), BAD);
        due("a finding", g.finding(1, 1, false), 1);
        due("an appeal", g.appeal(0), 1);
    }

    private static void keptOfSeveral() {
        about("All but THE TAPE .. is kept: of several PERSONS, DEEDS, FINDINGS, VERSIONS, TERMS, times HELD each its own");
        Twins.Story several = HostEdgeTest::several;
        Twins.unchanged("again", several, PenaltyGrid::again, 1);
        Twins.unchanged("again, twice", several, g -> g.again() * g.again(), 1);
        Twins.unchanged("keep", several, PenaltyGrid::keep, 1);
        Twins.unchanged("again behind more", several, HostEdgeTest::moreThenAgain, 1);
        Twins.unchanged("again behind more, twice", several, g -> moreThenAgain(g) * moreThenAgain(g), 1);
    }

    /** Nothing of one is as that of another, and nothing is 0: so none can stand for another. Now is kept. */
    private static void several(PenaltyGrid g) {
        for (int i = 0; i < 4; i++) g.person(15 + 2 * i, 90 + i);
        for (int i = 0; i < 3; i++) Check.read(g, "points 1 " + (i + 1) + ";range " + i + " 0 " + i + " to 99;" + "back;".repeat(i));
        g.days(9);
        for (int i = 0; i < 6; i++) g.deed(3 - i % 4, 1 + i % 5, 3 + i);
        for (int i = 0; i < 7; i++) g.finding(6 - i < 6 ? 6 - i : 0, 15 - i, i % 2 == 0);
        for (int i = 0; i < 6; i++) g.term(i, 4 - i % 2, 7 + i, 1 + 10 * (i % 4));
        g.days(11);
        Check.read(g, "points 1 4;beside if gave;");
        for (int i = 0; i < 4; i++) {
            g.held(3 - i, 1 + i, 3 + 2 * i);
            g.good(i, 5 + i);
        }
        g.appeal(4);
        g.appeal(2);
        g.prove(1);
        g.keep();
    }

    private static long moreThenAgain(PenaltyGrid g) {
        g.days(30);
        g.person(70, 7);
        g.deed(4, 5, 50);
        g.deed(0, 0, 1);
        g.finding(0, 0, false);
        g.finding(6, 1, true);
        Check.read(g, "points 1 9;back;");
        g.appeal(0);
        g.term(0, 1, 200, 0);
        g.term(6, 2, 100, 1);
        g.term(2, 3, 9, 1);
        g.held(0, 20, 50);
        g.held(4, 0, 9);
        for (int person = 0; person < 5; person++) g.good(person, 60 + person);
        return g.again();
    }

    private static void keptThenMore() {
        about("All but THE TAPE .. is kept: what comes behind again() is as new");
        g.deed(0, 0, 0);
        g.keep();
        g.person(30, 0);
        g.good(1, 50);
        g.deed(1, 4, 0);
        g.finding(1, 9, true);
        g.term(0, 0, 5, 1);
        g.term(1, 0, 6, 1);
        g.appeal(0);
        g.appeal(1);
        g.held(1, 0, 0);
        read("back;old 5;");
        g.again();
        due("a person", g.person(40, 0), 1);
        due("of years of its own", g.age(1, 0), 40);
        due("without good days", g.good(1, 1), 1);
        due("a deed", g.deed(1, 3, 0), 1);
        due("of a kind of its own", g.deedOf(1, 0, 1), 3);
        due("without facts", g.deedOf(1, 0, 3), 0);
        due("not pleaded", g.deedOf(1, 0, 4), 0);
        due("without a term", g.deedOf(1, 0, 5), NONE);
        due("a term", g.term(1, 0, 1, 0), 0);
        due("it stands", g.deedOf(1, 0, 5), 0);
        due("as known at the last day", g.deedOf(1, 9999, 5), 0);
        due("of months of its own", g.release(1, 0), 29);
        due("not drawn", g.spread(0, 0, 1), 0);
        due("a time held", g.held(0, 0, 0), 1);
        due("a law", read("old 1;"), 0);
        due("of lines of its own", g.version(0, 0), 1);
        due("without a back", g.version(0, 2), 0);
    }

    private static void keptStays() {
        about("It becomes what was kept latest (which stays)");
        g.deed(0, 0, 0);
        g.term(0, 0, 10, 0);
        g.keep();
        for (int run = 0; run < 3; run++) {
            g.days(10 + run);
            g.appeal(0);
            g.deed(0, 5, 3);
            g.term(1, 0, 1, 0);
            g.finding(0, 1 + run, true);
            g.good(0, 5);
            g.held(0, 0, 5);
            read("old 1;");
            g.person(1 + run, 0);
            due("again", g.again(), 1);
            int[] want = {0, 1, 1, 0, 0, 1, 1, 0};
            for (int what = 0; what < 8; what++) due("many " + what, g.many(what), want[what]);
            due("release", g.release(0, 0), 300);
            due("facts", g.deedOf(0, 9999, 3), 0);
        }
        g.days(1);
        g.deed(0, 2, 1);
        due("keep later", g.keep(), 1);
        g.days(1);
        g.deed(0, 3, 2);
        due("again", g.again(), 1);
        due("the latest", g.many(0), 1);
        due("the latest", g.many(2), 2);
        due("again", g.again(), 1);
        due("the latest", g.many(0), 1);
        g.appeal(0);
        g.days(3);
        due("keep what stands no more", g.keep(), 1);
        due("again", g.again(), 1);
        due("it stands no more", g.appeal(0), -4);
        due("as known ahead", g.deedOf(0, 0, 5), 0);
        due("as known then", g.deedOf(0, 1, 5), NONE);
    }
}
