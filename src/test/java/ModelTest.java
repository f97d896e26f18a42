import java.util.Random;

/** Long runs of calls, each asked of the class and of the model; the seeds are fixed, so the runs are always the same. */
public final class ModelTest {
    private static final int RUNS = 8000;
    /** What later calls of an object answer is free. */
    private static final int MOST_CALLS = 512;
    private static final int[] EDGES = {Integer.MIN_VALUE, Integer.MAX_VALUE, -1, 16, 10000, -10, 41, 1 << 16, -2};
    private static final String[] LINES = {
        "grave 0 %d;", "grave 1 %d;", "grave 2 %d;", "points 0 %d;", "points 1 %d;", "points 2 %d;", "points 3 %d;", "old %d;", "range %g %o %d to 24%z;",
        "range %g %o %d to 24%z;", "range %g %o 1%d to 10%d;", "range %g %o 0 to 240;", "range 0 0 0 to 99;", "up %g if %c;", "up %g if %c;", "down %g if %c;",
        "down %g if %c;", "beside if %c;", "beside if %c;", "back;",
    };
    private static final String[] CONDS = {
        "weapon", "hurt", "helped", "gave", "young", "pleaded", "not %c", "(%c)", "%c and %c", "%c or %c", "%s<%s", "%s = %s", "%s >%s",
    };
    private static final String[] SUMS = {"points", "kind", "age", "%d", "2%d", "%s+%s"};
    private static final String[] SCRAP = {"old", "grave", " ", ";", "(", ")", "if", "not", "9", "1000", "241", "to", "or", "and", "<", "+", "young", "x", "\t", "\u00e9", "A", "points"};

    private static Random random;
    private static PenaltyGrid grid;
    private static GridModel model;
    private static int calls;

    public static void main(String[] args) {
        for (int run = 0; run < RUNS; run++) {
            random = new Random(run);
            grid = new PenaltyGrid();
            model = new GridModel();
            calls = 0;
            int quiet = random.nextInt(3);
            for (int call = 0; call < MOST_CALLS && isMore(); call++) {
                if (!call(run, call, quiet)) break;
            }
        }
        Check.end();
    }

    /** Whether one more call is promised. */
    private static boolean isMore() {
        return calls < MOST_CALLS;
    }

    private static int upTo(int most) {
        return random.nextInt(most + 1);
    }

    /** Mostly from 0 to one beyond the most, seldom anything. */
    private static int some(int most) {
        return random.nextInt(25) == 0 ? EDGES[random.nextInt(EDGES.length)] : upTo(most + (random.nextInt(8) == 0 ? 1 : 0));
    }

    private static int last(int what) {
        return Math.max(0, model.many(what) - 1);
    }

    private static int someDay() {
        int now = model.many(0);
        int kind = random.nextInt(10);
        if (kind < 4) return now;
        if (kind < 7) return upTo(now);
        if (kind < 9) return Math.max(0, now - upTo(20));
        return some(9999);
    }

    private static int someTerm() {
        return some(last(5));
    }

    private static int someDeed() {
        return some(last(2));
    }

    private static int someLaw() {
        return some(last(4));
    }

    private static int somePerson() {
        return some(last(1));
    }

    private static String filled(String form, int depth) {
        StringBuilder out = new StringBuilder();
        for (int i = 0; i < form.length(); i++) {
            if (form.charAt(i) != '%') {
                out.append(form.charAt(i));
                continue;
            }
            i++;
            switch (form.charAt(i)) {
                case 'd': out.append(random.nextInt(10)); break;
                case 'g': out.append(random.nextInt(random.nextInt(3) == 0 ? 5 : 2)); break;
                case 'o': out.append(random.nextInt(random.nextInt(2) == 0 ? 4 : 1)); break;
                case 'z': out.append(0); break;
                case 'c': out.append(filled(CONDS[random.nextInt(depth > 2 ? 6 : CONDS.length)], depth + 1)); break;
                default: out.append(filled(SUMS[random.nextInt(depth > 3 ? 5 : SUMS.length)], depth + 1)); break;
            }
        }
        return out.toString();
    }

    private static String text() {
        StringBuilder text = new StringBuilder();
        int lines = upTo(random.nextInt(10) == 0 ? 14 : 9);
        for (int i = 0; i < lines; i++) text.append(filled(LINES[random.nextInt(LINES.length)], 0)).append(" ".repeat(upTo(1)));
        int scraps = random.nextInt(3) == 0 ? upTo(2) : 0;
        for (int i = 0; i < scraps; i++) {
            int at = upTo(text.length());
            if (random.nextBoolean()) text.insert(at, SCRAP[random.nextInt(SCRAP.length)]);
            else text.delete(at, Math.min(text.length(), at + upTo(3)));
        }
        return text.toString();
    }

    private static boolean same(int run, int call, String what, int got, int want) {
        calls++;
        Check.due("run " + run + " call " + call + " " + what, got, want);
        return got == want;
    }

    private static boolean feed(int run, int call) {
        String text = text();
        boolean same = true;
        for (int from = 0; same && isMore() && from < text.length(); from += 8) {
            int n = Math.min(8, text.length() - from);
            long eight = random.nextLong();
            for (int i = n - 1; i >= 0; i--) eight = eight << 8 | text.charAt(from + i) & 255;
            same = same(run, call, "feed", grid.feed(eight, n), model.feed(eight, n));
        }
        return same && isMore() && same(run, call, "read of '" + text + "'", grid.read(), model.read());
    }

    private static boolean call(int run, int call, int quiet) {
        int a;
        int b;
        int c;
        int d;
        switch (random.nextInt(call < 40 ? 12 : 47)) {
            case 0:
                a = random.nextInt(3) == 0 ? some(400 >> 2 * quiet) : upTo(9) + 1;
                return same(run, call, "days " + a, grid.days(a), model.days(a));
            case 1:
                a = some(30);
                b = some(359);
                return same(run, call, "person", grid.person(a, b), model.person(a, b));
            case 2:
            case 3:
                a = somePerson();
                b = some(random.nextInt(3) == 0 ? 5 : 2);
                c = someDay();
                return same(run, call, "deed", grid.deed(a, b, c), model.deed(a, b, c));
            case 4:
                a = someDeed();
                b = some(15);
                boolean pleaded = random.nextBoolean();
                return same(run, call, "finding", grid.finding(a, b, pleaded), model.finding(a, b, pleaded));
            case 5:
                if (call > 60 && random.nextInt(3) > 0) return true;
                return feed(run, call);
            case 6:
            case 7:
                a = someDeed();
                b = some(random.nextBoolean() ? 1 : 4);
                c = random.nextBoolean() ? some(240) : some(20);
                d = random.nextInt(10) == 0 ? some(40) : 10 * upTo(3) + (random.nextInt(4) == 0 ? 0 : 1);
                return same(run, call, "term", grid.term(a, b, c, d), model.term(a, b, c, d));
            case 8:
                a = somePerson();
                b = someDay();
                c = random.nextInt(4) == 0 ? someDay() : b + upTo(30);
                return same(run, call, "held", grid.held(a, b, c), model.held(a, b, c));
            case 9:
                a = somePerson();
                b = some(99);
                return same(run, call, "good", grid.good(a, b), model.good(a, b));
            case 10:
                a = someTerm();
                if (random.nextInt(3) > 0) return true;
                return same(run, call, "appeal " + a, grid.appeal(a), model.appeal(a));
            case 11:
                a = some(10);
                return same(run, call, "many " + a, grid.many(a), model.many(a));
            default:
                return asked(run, call);
        }
    }

    private static boolean asked(int run, int call) {
        int a;
        int b;
        int c;
        int k = someDay();
        boolean most = random.nextBoolean();
        switch (random.nextInt(33)) {
            case 0:
                a = somePerson();
                return same(run, call, "age", grid.age(a, k), model.age(a, k));
            case 1:
                a = someDeed();
                b = some(5);
                return same(run, call, "deedOf", grid.deedOf(a, k, b), model.deedOf(a, k, b));
            case 2:
                a = someLaw();
                b = random.nextInt(4) == 0 ? some(25) : 10 + upTo(12);
                return same(run, call, "version", grid.version(a, b), model.version(a, b));
            case 3:
                a = someDeed();
                return same(run, call, "law", grid.law(a, k), model.law(a, k));
            case 4:
            case 5:
                a = someDeed();
                b = someLaw();
                return same(run, call, "points", grid.points(a, b, k), model.points(a, b, k));
            case 6:
            case 7:
                a = someDeed();
                b = someLaw();
                return same(run, call, "grave", grid.grave(a, b, k), model.grave(a, b, k));
            case 8:
            case 9:
                a = someDeed();
                b = someLaw();
                return same(run, call, "range", grid.range(a, b, k), model.range(a, b, k));
            case 10:
                return same(run, call, "amiss", grid.amiss(k), model.amiss(k));
            case 11:
                a = somePerson();
                return same(run, call, "credit", grid.credit(a, k), model.credit(a, k));
            case 12:
            case 13:
                a = somePerson();
                return same(run, call, "release", grid.release(a, k), model.release(a, k));
            case 14:
                a = someDay();
                return same(run, call, "beds", grid.beds(a, k), model.beds(a, k));
            case 15:
                a = somePerson();
                return same(run, call, "prove", grid.prove(a), model.prove(a));
            case 16:
                a = some(last(8));
                b = some(2);
                return same(run, call, "row", grid.row(a, b), model.row(a, b));
            case 17:
                return altered(run, call);
            case 18:
                return same(run, call, "judge", grid.judge(), model.judge());
            case 19:
            case 20:
                if (random.nextInt(3) > 0) k = model.many(0);
                a = some(random.nextBoolean() ? 1 : 4);
                b = some(4);
                if (model.spread(0, k, 1) > 10 && random.nextInt(10) > 0) return true;
                return same(run, call, "spread", grid.spread(a, k, b), model.spread(a, k, b));
            case 21:
                a = someLaw();
                return same(run, call, "another", grid.another(a, most), model.another(a, most));
            case 22:
            case 23:
                a = someDeed();
                return same(run, call, "like", grid.like(a, k), model.like(a, k));
            case 24:
                return random.nextInt(3) > 0 || same(run, call, "keep", grid.keep(), model.keep());
            case 25:
                return random.nextInt(3) > 0 || same(run, call, "again", grid.again(), model.again());
            default:
                return hosted(run, call);
        }
    }

    private static boolean altered(int run, int call) {
        int a = some(last(8));
        int b = some(2);
        int c = random.nextInt(2) == 0 ? model.row(a, b) : b == 0 ? some(16) : some(900);
        return same(run, call, "alterRow", grid.alterRow(a, b, c), model.alterRow(a, b, c));
    }

    private static boolean hosted(int run, int call) {
        int a = some(3);
        int b = some(3);
        int x = random.nextBoolean() ? random.nextInt() : some(30);
        switch (random.nextInt(10)) {
            case 0: {
                int sort = random.nextInt(8) == 0 ? -1 : random.nextBoolean() ? 1 : b;
                int n = random.nextInt(3) == 0 ? some(40) : upTo(9);
                return same(run, call, "sheet", grid.sheet(a, sort, n), model.sheet(a, sort, n));
            }
            case 1:
            case 2: {
                int i = some(9);
                return same(run, call, "put", grid.put(a, i, x), model.put(a, i, x));
            }
            case 3: {
                int i = some(9);
                return same(run, call, "item", grid.item(a, b, i), model.item(a, b, i));
            }
            case 4: {
                int deed = someDeed();
                int i = some(5);
                int n = some(random.nextBoolean() ? 9 : 2);
                return same(run, call, "comes", grid.comes(deed, a, i, n), model.comes(deed, a, i, n));
            }
            case 5:
            case 6: {
                int what = some(5);
                int n = some(what < 0 || what > 3 ? 3 : last(new int[] {2, 3, 5, 4}[what]));
                return same(run, call, "shelf", grid.shelf(a, what, n), model.shelf(a, what, n));
            }
            case 7: {
                int as = random.nextBoolean() ? some(6) : 10 + upTo(3);
                return same(run, call, "taken", grid.taken(a, as), model.taken(a, as));
            }
            default:
                if (!same(run, call, "act " + b, grid.act(a, b, x), model.act(a, b, x))) return false;
                for (int i = 0; i < 8 && isMore(); i++) if (!same(run, call, "trace", grid.trace(i), model.trace(i))) return false;
                return true;
        }
    }
}
