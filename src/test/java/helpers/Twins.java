import java.util.ArrayList;
import java.util.HashMap;
import java.util.List;
import java.util.Map;

/**
 * Makes two objects by the same calls, asks one of them what has to change nothing, and then asks both all that can be
 * asked: they have to answer alike. What changes an object is asked of twins of its own, and no object is asked more
 * than 512 times.
 */
final class Twins {
    interface Story {
        void tell(PenaltyGrid g);
    }

    interface Call {
        long on(PenaltyGrid g);
    }

    private record Question(String name, Call call) { }

    private static final int[] DAYS = {0, 3, 7, 20, 9999};
    private static final List<List<Question>> SETS = new ArrayList<>();
    private static final Map<Story, List<long[]>> TOLD = new HashMap<>();

    private Twins() {
    }

    static {
        SETS.add(ofPersonsAndDeeds());
        SETS.add(ofLaws());
        SETS.add(ofTime());
        SETS.add(ofTheHost());
        for (int shelf = 0; shelf < 4; shelf++) SETS.add(ofAnAct(shelf));
        SETS.add(ofTheTape());
        SETS.add(ofWhatIsKept());
        SETS.add(ofWhatIsFree());
    }

    /** The call answers what is due, and all that can be asked behind it is as it was. */
    static void unchanged(String name, Story story, Call call, long want) {
        List<long[]> told = TOLD.computeIfAbsent(story, Twins::answers);
        for (int set = 0; set < SETS.size(); set++) {
            PenaltyGrid g = new PenaltyGrid();
            story.tell(g);
            long got = call.on(g);
            if (set == 0) Check.due(name, got, want);
            List<Question> questions = SETS.get(set);
            for (int i = 0; i < questions.size(); i++) {
                long now = questions.get(i).call.on(g);
                if (now != told.get(set)[i]) Check.due(questions.get(i).name + " behind " + name, now, told.get(set)[i]);
            }
        }
    }

    private static List<long[]> answers(Story story) {
        List<long[]> all = new ArrayList<>();
        for (List<Question> questions : SETS) {
            PenaltyGrid g = new PenaltyGrid();
            story.tell(g);
            long[] answers = new long[questions.size()];
            for (int i = 0; i < answers.length; i++) answers[i] = questions.get(i).call.on(g);
            all.add(answers);
        }
        return all;
    }

    private static void ask(List<Question> set, String name, Call call) {
        set.add(new Question(name, call));
    }

    private static List<Question> ofPersonsAndDeeds() {
        List<Question> set = new ArrayList<>();
        for (int what = 0; what <= 10; what++) {
            int w = what;
            ask(set, "many(" + w + ")", g -> g.many(w));
        }
        for (int person = 0; person < 9; person++) {
            int p = person;
            ask(set, "age(" + p + ", 100)", g -> g.age(p, 100));
        }
        for (int deed = 0; deed < 17; deed++) {
            int d = deed;
            for (int what = 0; what < 6; what++) {
                int w = what;
                ask(set, "deedOf(" + d + ", 7, " + w + ")", g -> g.deedOf(d, 7, w));
                if (w > 2) ask(set, "deedOf(" + d + ", 9999, " + w + ")", g -> g.deedOf(d, 9999, w));
            }
        }
        return set;
    }

    private static List<Question> ofLaws() {
        List<Question> set = new ArrayList<>();
        for (int version = 0; version < 7; version++) {
            int v = version;
            for (int what = 0; what < 23; what += what == 2 ? 8 : 1) {
                int w = what;
                ask(set, "version(" + v + ", " + w + ")", g -> g.version(v, w));
            }
            for (int deed = 0; deed < 16; deed += 3) {
                int d = deed;
                ask(set, "range(" + d + ", " + v + ", 9999)", g -> g.range(d, v, 9999));
                ask(set, "grave(" + d + ", " + v + ", 9999)", g -> g.grave(d, v, 9999));
                ask(set, "points(" + d + ", " + v + ", 9999)", g -> g.points(d, v, 9999));
            }
        }
        for (int deed = 0; deed < 16; deed++) {
            int d = deed;
            ask(set, "law(" + d + ", 9999)", g -> g.law(d, 9999));
        }
        return set;
    }

    private static List<Question> ofTime() {
        List<Question> set = new ArrayList<>();
        for (int day : DAYS) {
            ask(set, "amiss(" + day + ")", g -> g.amiss(day));
            for (int person = 0; person < 8; person++) {
                int p = person;
                ask(set, "release(" + p + ", " + day + ")", g -> g.release(p, day));
                ask(set, "credit(" + p + ", " + day + ")", g -> g.credit(p, day));
            }
            ask(set, "beds(" + day + ", 9999)", g -> g.beds(day, 9999));
            for (int court = 0; court < 5; court++) {
                int c = court;
                ask(set, "spread(" + c + ", " + day + ", 0)", g -> g.spread(c, day, 0));
                ask(set, "spread(" + c + ", " + day + ", 2)", g -> g.spread(c, day, 2));
            }
            for (int deed = 0; deed < 16; deed++) {
                int d = deed;
                ask(set, "like(" + d + ", " + day + ")", g -> g.like(d, day));
            }
        }
        for (int version = 0; version < 7; version++) {
            int v = version;
            ask(set, "another(" + v + ")", g -> g.another(v, true));
        }
        ask(set, "judge()", g -> g.judge());
        for (int i = 0; i < 51; i++) {
            int row = i;
            ask(set, "row(" + row / 3 + ", " + row % 3 + ")", g -> g.row(row / 3, row % 3));
        }
        return set;
    }

    private static List<Question> ofTheHost() {
        List<Question> set = new ArrayList<>();
        for (int i = 0; i < 31; i++) {
            int at = i;
            ask(set, "trace(" + at + ")", g -> g.trace(at));
        }
        for (int sheet = 0; sheet < 4; sheet++) {
            int s = sheet;
            for (int i = 0; i < 41; i++) {
                int at = i;
                ask(set, "item(" + s + ", " + s + ", " + at + ")", g -> g.item(s, s, at));
            }
            for (int sort = 0; sort < 4; sort++) {
                int taken = sort;
                ask(set, "item(" + s + ", " + taken + ", 0)", g -> g.item(s, taken, 0));
            }
            for (int as = 0; as < 14; as++) {
                int taken = as;
                ask(set, "taken(" + s + ", " + taken + ")", g -> g.taken(s, taken));
            }
        }
        return set;
    }

    private static List<Question> ofAnAct(int shelf) {
        List<Question> set = new ArrayList<>();
        for (int act = 0; act < 4; act++) {
            int a = act;
            ask(set, "act(" + shelf + ", " + a + ", 77)", g -> g.act(shelf, a, 77));
        }
        for (int i = 0; i < 8; i++) {
            int at = i;
            ask(set, "trace(" + at + ") of the act", g -> g.trace(at));
        }
        return set;
    }

    private static List<Question> ofTheTape() {
        List<Question> set = new ArrayList<>();
        ask(set, "feed(';', 1)", g -> g.feed(';', 1));
        ask(set, "read()", g -> g.read());
        ask(set, "feed behind it", g -> Check.read(g, "old 5"));
        return set;
    }

    private static List<Question> ofWhatIsKept() {
        List<Question> set = new ArrayList<>();
        ask(set, "again()", g -> g.again());
        set.addAll(ofPersonsAndDeeds());
        for (int person = 0; person < 8; person++) {
            int p = person;
            ask(set, "release(" + p + ", 9999) of what is kept", g -> g.release(p, 9999));
        }
        return set;
    }

    /** What is left till it is full: it changes the object, and so is asked last. */
    private static List<Question> ofWhatIsFree() {
        List<Question> set = new ArrayList<>();
        for (int person = 0; person < 8; person++) {
            int p = person;
            ask(set, "good(" + p + ", 1)", g -> g.good(p, 1));
            ask(set, "prove(" + p + ")", g -> g.prove(p));
        }
        ask(set, "days(1)", g -> g.days(1));
        ask(set, "person(5, 5)", g -> g.person(5, 5));
        ask(set, "deed(0, 0, 0)", g -> g.deed(0, 0, 0));
        ask(set, "finding(0, 0, false)", g -> g.finding(0, 0, false));
        ask(set, "appeal(0)", g -> g.appeal(0));
        ask(set, "appeal(15)", g -> g.appeal(15));
        ask(set, "term(0, 0, 0, 0)", g -> g.term(0, 0, 0, 0));
        ask(set, "term(1, 0, 0, 0)", g -> g.term(1, 0, 0, 0));
        ask(set, "held(0, 0, 0)", g -> g.held(0, 0, 0));
        return set;
    }
}
