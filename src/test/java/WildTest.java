import java.util.Random;

/** No call ever throws or fails to end: long runs of calls with any numbers whatever; what they answer is not looked at. */
public final class WildTest {
    private static final int RUNS = 60;
    private static final int CALLS = 6000;
    private static final int[] EDGES = {Integer.MIN_VALUE, Integer.MIN_VALUE + 1, -16, -15, -2, -1, 40, 41, 240, 241, 250, 9999, 10000, 65536,
        Integer.MAX_VALUE - 1, Integer.MAX_VALUE};
    private static final String[] SCRAPS = {"grave", "points", "old", "range", "up", "down", "beside", "back", "if", "to", "or", "and", "not", "(", "(", ")", "<",
        "=", ">", "+", "+", ";", ";", "weapon", "young", "kind", "age", "0", "1", "9", "999", "1000", "\u00ff", "\u0000", "x", "if weapon;", "back;", "old 5;"};
    private static Random random;
    private static PenaltyGrid g;

    public static void main(String[] args) {
        int calls = 0;
        for (int run = 0; run < RUNS; run++) {
            random = new Random(run);
            g = new PenaltyGrid();
            for (int call = 0; call < CALLS; call++) {
                if (random.nextInt(6) == 0) law();
                else if (random.nextInt(2) == 0) fill();
                else ask();
                calls++;
            }
        }
        Check.holds("all calls came back", calls == RUNS * CALLS);
        Check.end();
    }

    private static int any() {
        int kind = random.nextInt(20);
        if (kind == 0) return EDGES[random.nextInt(EDGES.length)];
        if (kind == 1) return random.nextInt();
        if (kind < 6) return random.nextInt(300);
        return random.nextInt(kind < 12 ? 5 : 17);
    }

    private static void law() {
        StringBuilder text = new StringBuilder();
        int n = random.nextInt(40);
        for (int i = 0; i < n; i++) text.append(SCRAPS[random.nextInt(SCRAPS.length)]).append(random.nextInt(8) == 0 ? "" : " ");
        Check.feed(g, text.toString());
        if (random.nextInt(3) == 0) Check.feed(g, "grave 1 4;range 4 0 1 to 5;up 4 if points+1>0;beside if 0=0;back;");
        if (random.nextInt(4) > 0) g.read();
    }

    private static void fill() {
        int a = any();
        switch (random.nextInt(19)) {
            case 0: g.days(a); break;
            case 1: g.person(a, any()); break;
            case 2: g.deed(a, any(), any()); break;
            case 3: g.finding(a, any(), random.nextBoolean()); break;
            case 4: g.feed(random.nextLong(), a); break;
            case 5: g.read(); break;
            case 6: g.term(a, any(), any(), any()); break;
            case 7: g.term(random.nextInt(16), any(), any(), 1); break;
            case 8: g.appeal(a); break;
            case 9: g.held(a, any(), any()); break;
            case 10: g.good(a, any()); break;
            case 11: g.prove(a); break;
            case 12: g.alterRow(a, any(), any()); break;
            case 13: g.sheet(a, any(), any()); break;
            case 14: g.put(a, any(), any()); break;
            case 15: g.comes(a, any(), any(), any()); break;
            case 16: g.shelf(a, any(), any()); break;
            case 17: g.keep(); break;
            default: g.again(); break;
        }
    }

    private static void ask() {
        int a = any();
        int b = any();
        switch (random.nextInt(22)) {
            case 0: g.age(a, b); break;
            case 1: g.deedOf(a, b, any()); break;
            case 2: g.version(a, b); break;
            case 3: g.law(a, b); break;
            case 4: g.points(a, b, any()); break;
            case 5: g.grave(a, b, any()); break;
            case 6: g.range(a, b, any()); break;
            case 7: g.amiss(a); break;
            case 8: g.credit(a, b); break;
            case 9: g.release(a, b); break;
            case 10: g.beds(a, b); break;
            case 11: g.row(a, b); break;
            case 12: g.judge(); break;
            case 13: g.spread(a, b, any()); break;
            case 14: g.another(a, random.nextBoolean()); break;
            case 15: g.like(a, b); break;
            case 16: g.item(a, b, any()); break;
            case 17: g.taken(a, b); break;
            case 18: g.act(a, b, any()); break;
            case 19: g.trace(a); break;
            case 20: g.many(a); break;
            default: g.act(random.nextInt(4), random.nextInt(4), random.nextInt()); break;
        }
    }
}
