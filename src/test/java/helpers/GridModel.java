import java.util.ArrayList;
import java.util.Arrays;
import java.util.List;

/**
 * The document once more, written apart from the class and as slowly as it likes: laws are kept as texts and
 * evaluated from them anew, spreads go through all sets, held days are marked one by one.
 */
final class GridModel {
    private static final int BAD = -1, FULL = -2, NONE = -3, STATE = -4;

    private record Deed(int person, int kind, int day) { }
    private record Finding(int deed, int facts, boolean pleaded, int known) { }
    private record Law(List<List<String>> lines, int day) { }
    private record Term(int deed, int court, int months, int reason, boolean drawn, int passed, int unwound) { }
    private record Held(int person, int from, int to) { }

    private int now = 0;
    private List<Integer> born = new ArrayList<>();
    private List<Integer> goods = new ArrayList<>();
    private List<Deed> deeds = new ArrayList<>();
    private List<Finding> findings = new ArrayList<>();
    private List<Law> laws = new ArrayList<>();
    private List<Term> terms = new ArrayList<>();
    private List<Held> helds = new ArrayList<>();

    private GridModel kept = null;
    private String tape = "";
    private List<int[]> rows = new ArrayList<>();
    private final Object[] sheets = new Object[4];
    private final Object[] shelves = new Object[4];
    private List<Integer> bodies = new ArrayList<>();

    private static boolean in(int v, int least, int most) {
        return v >= least && v <= most;
    }

    private static boolean day(int d) {
        return in(d, 0, 9999);
    }

    int days(int n) {
        if (!in(n, 1, 2000)) return BAD;
        if (now + n > 9999) return STATE;
        return now += n;
    }

    int person(int years, int days) {
        if (!in(years, 0, 90) || !in(days, 0, 359)) return BAD;
        if (born.size() == 8) return FULL;
        born.add(360 * years + days);
        goods.add(0);
        return born.size() - 1;
    }

    private boolean person(int p) {
        return in(p, 0, born.size() - 1);
    }

    private boolean deed(int d) {
        return in(d, 0, deeds.size() - 1);
    }

    private boolean law(int v) {
        return in(v, 0, laws.size() - 1);
    }

    int age(int person, int day) {
        return person(person) && day(day) ? (born.get(person) + day) / 360 : BAD;
    }

    int deed(int person, int kind, int day) {
        if (!person(person) || !in(kind, 0, 5) || !in(day, 0, now)) return BAD;
        if (deeds.size() == 16) return FULL;
        deeds.add(new Deed(person, kind, day));
        return deeds.size() - 1;
    }

    int finding(int deed, int facts, boolean pleaded) {
        if (!deed(deed) || !in(facts, 0, 15)) return BAD;
        if (findings.size() == 24) return FULL;
        findings.add(new Finding(deed, facts, pleaded, now));
        return findings.size() - 1;
    }

    private Finding known(int deed, int k) {
        Finding latest = new Finding(deed, 0, false, 0);
        for (Finding f : findings) if (f.deed == deed && f.known <= k) latest = f;
        return latest;
    }

    private boolean stands(Term t, int k) {
        return t.passed <= k && !(t.unwound >= 0 && t.unwound <= k);
    }

    private int standing(int deed, int k) {
        for (int i = 0; i < terms.size(); i++) if (terms.get(i).deed == deed && stands(terms.get(i), k)) return i;
        return NONE;
    }

    int deedOf(int deed, int k, int what) {
        if (!deed(deed) || !day(k) || !in(what, 0, 5)) return BAD;
        Deed d = deeds.get(deed);
        int[] all = {d.person, d.kind, d.day, known(deed, k).facts, known(deed, k).pleaded ? 1 : 0, standing(deed, k)};
        return all[what];
    }

    int feed(long eight, int n) {
        if (!in(n, 1, 8)) return BAD;
        if (tape.length() + n > 250) return FULL;
        for (int i = 0; i < n; i++) tape += (char) (eight >>> 8 * i & 255);
        return tape.length();
    }

    // Texts: a fault is thrown as its place.

    private static final class Fault extends Exception {
        private static final long serialVersionUID = 1;
        final int place;

        Fault(int place) {
            this.place = place;
        }
    }

    private final class Text {
        final List<String> tokens = new ArrayList<>();
        final List<Integer> places = new ArrayList<>();
        int at = 0;

        Text(String s) {
            for (int i = 0; i < s.length();) {
                int j = i + 1;
                String row = Character.toString(s.charAt(i));
                String same = row.matches("[a-z]") ? "[a-z]" : row.matches("[0-9]") ? "[0-9]" : "";
                while (j < s.length() && s.substring(j, j + 1).matches(same)) j++;
                if (s.charAt(i) != ' ') {
                    tokens.add(s.substring(i, j));
                    places.add(i);
                }
                i = j;
            }
            tokens.add("");
            places.add(s.length());
        }

        String here() {
            return tokens.get(at);
        }

        Fault fault() {
            return new Fault(places.get(at));
        }

        void take(String t) throws Fault {
            if (!here().equals(t)) throw fault();
            at++;
        }

        int number(int least, int most) throws Fault {
            if (!here().matches("[0-9]{1,3}") || !in(Integer.parseInt(here()), least, most)) throw fault();
            return Integer.parseInt(tokens.get(at++));
        }

        List<List<String>> lines() throws Fault {
            List<List<String>> all = new ArrayList<>();
            while (!here().isEmpty()) {
                if (all.size() == 12) throw fault();
                int from = at;
                line();
                all.add(tokens.subList(from, at));
                take(";");
            }
            return all;
        }

        void line() throws Fault {
            String word = here();
            if (!List.of("grave", "points", "old", "range", "up", "down", "beside", "back").contains(word)) throw fault();
            at++;
            if (word.equals("grave") || word.equals("points")) {
                number(0, 5);
                number(0, 9);
            } else if (word.equals("old")) {
                number(0, 90);
            } else if (word.equals("range")) {
                number(0, 4);
                number(0, 3);
                int least = number(0, 240);
                take("to");
                number(least, 240);
            } else if (!word.equals("back")) {
                if (!word.equals("beside")) number(0, 4);
                take("if");
                cond(0);
            }
        }

        void cond(int open) throws Fault {
            all(open);
            while (here().equals("or")) {
                at++;
                all(open);
            }
        }

        void all(int open) throws Fault {
            one(open);
            while (here().equals("and")) {
                at++;
                one(open);
            }
        }

        void one(int open) throws Fault {
            while (here().equals("not")) at++;
            if (here().equals("(")) {
                if (open == 4) throw fault();
                at++;
                cond(open + 1);
                take(")");
            } else if (List.of("weapon", "hurt", "helped", "gave", "young", "pleaded").contains(here())) {
                at++;
            } else {
                sum();
                if (!List.of("<", "=", ">").contains(here())) throw fault();
                at++;
                sum();
            }
        }

        void sum() throws Fault {
            value();
            while (here().equals("+")) {
                at++;
                value();
            }
        }

        void value() throws Fault {
            if (List.of("points", "kind", "age").contains(here())) at++;
            else number(0, 999);
        }
    }

    int read() {
        Text text = new Text(tape);
        tape = "";
        try {
            List<List<String>> lines = text.lines();
            if (laws.size() == 6) return FULL;
            laws.add(new Law(lines, now));
            return laws.size() - 1;
        } catch (Fault f) {
            return -100 - f.place;
        }
    }

    private static final List<String> SORTS = List.of("grave", "points", "old", "range", "up", "down", "beside", "back");

    private boolean back(Law l) {
        for (List<String> line : l.lines) if (line.get(0).equals("back")) return true;
        return false;
    }

    int version(int v, int what) {
        if (!law(v)) return BAD;
        Law l = laws.get(v);
        if (what == 0) return l.lines.size();
        if (what == 1) return l.day;
        if (what == 2) return back(l) ? 1 : 0;
        if (what < 10 || what >= 10 + l.lines.size()) return BAD;
        return SORTS.indexOf(l.lines.get(what - 10).get(0));
    }

    private int theLaw(int deed, int j) {
        int day = deeds.get(deed).day;
        for (int v = laws.size() - 1; v >= 0; v--) {
            Law l = laws.get(v);
            if (l.day > day && l.day <= j && back(l)) return v;
        }
        for (int v = laws.size() - 1; v >= 0; v--) if (laws.get(v).day <= day) return v;
        return NONE;
    }

    int law(int deed, int judged) {
        if (!deed(deed) || !day(judged) || judged < deeds.get(deed).day) return BAD;
        return theLaw(deed, judged);
    }

    private int ofKind(Law l, String word, int kind) {
        int n = 0;
        for (List<String> line : l.lines) {
            if (line.get(0).equals(word) && Integer.parseInt(line.get(1)) == kind) n = Integer.parseInt(line.get(2));
        }
        return n;
    }

    private int pointsOf(int deed, int v, int k) {
        if (v == NONE) return 0;
        Law l = laws.get(v);
        int old = 90;
        for (List<String> line : l.lines) if (line.get(0).equals("old")) old = Integer.parseInt(line.get(1));
        int sum = 0;
        Deed d = deeds.get(deed);
        for (int e = 0; e < deeds.size(); e++) {
            Deed o = deeds.get(e);
            if (e == deed || o.person != d.person || o.day < d.day - 360 * old) continue;
            boolean counts = false;
            for (Term t : terms) counts |= t.deed == e && t.passed < d.day && stands(t, k);
            if (counts) sum += ofKind(l, "points", o.kind);
        }
        return sum;
    }

    /** Evaluates a condition from its tokens by taking the outermost "or", then "and", then "not", then brackets apart. */
    private boolean holds(List<String> cond, int deed, int v, int k) {
        for (String word : new String[] {"or", "and"}) {
            int depth = 0;
            for (int i = 0; i < cond.size(); i++) {
                if (cond.get(i).equals("(")) depth++;
                if (cond.get(i).equals(")")) depth--;
                if (depth != 0 || !cond.get(i).equals(word)) continue;
                boolean left = holds(cond.subList(0, i), deed, v, k);
                boolean right = holds(cond.subList(i + 1, cond.size()), deed, v, k);
                return word.equals("or") ? left || right : left && right;
            }
        }
        if (cond.get(0).equals("not")) return !holds(cond.subList(1, cond.size()), deed, v, k);
        if (cond.get(0).equals("(")) return holds(cond.subList(1, cond.size() - 1), deed, v, k);
        int facts = known(deed, k).facts;
        int fact = List.of("weapon", "hurt", "helped", "gave").indexOf(cond.get(0));
        if (fact >= 0) return (facts & 1 << fact) != 0;
        if (cond.get(0).equals("young")) return young(deed);
        if (cond.get(0).equals("pleaded")) return known(deed, k).pleaded;
        int i = Math.max(cond.indexOf("<"), Math.max(cond.indexOf("="), cond.indexOf(">")));
        int c = Integer.compare(sum(cond.subList(0, i), deed, v, k), sum(cond.subList(i + 1, cond.size()), deed, v, k));
        return c == List.of("<", "=", ">").indexOf(cond.get(i)) - 1;
    }

    private int sum(List<String> values, int deed, int v, int k) {
        int sum = 0;
        for (String value : values) {
            if (value.equals("points")) sum += pointsOf(deed, v, k);
            else if (value.equals("kind")) sum += deeds.get(deed).kind;
            else if (value.equals("age")) sum += age(deeds.get(deed).person, deeds.get(deed).day);
            else if (!value.equals("+")) sum += Integer.parseInt(value);
        }
        return sum;
    }

    private boolean young(int deed) {
        return age(deeds.get(deed).person, deeds.get(deed).day) < 18;
    }

    private int graveOf(int deed, int v, int k) {
        Law l = laws.get(v);
        int n = ofKind(l, "grave", deeds.get(deed).kind);
        for (List<String> line : l.lines) {
            String word = line.get(0);
            if (!word.equals("up") && !word.equals("down")) continue;
            if (!holds(line.subList(3, line.size()), deed, v, k)) continue;
            n += word.equals("up") ? Integer.parseInt(line.get(1)) : -Integer.parseInt(line.get(1));
        }
        return Math.min(4, Math.max(0, n));
    }

    private int[] rangeOf(int deed, int v, int k) {
        int[] range = null;
        if (v == NONE) return range;
        int often = Math.min(3, pointsOf(deed, v, k) / 3);
        for (List<String> line : laws.get(v).lines) {
            if (!line.get(0).equals("range")) continue;
            if (Integer.parseInt(line.get(1)) != graveOf(deed, v, k) || Integer.parseInt(line.get(2)) != often) continue;
            range = new int[] {Integer.parseInt(line.get(3)), Integer.parseInt(line.get(5))};
        }
        return range;
    }

    private boolean isCase(int deed, int v, int k) {
        return deed(deed) && law(v) && day(k);
    }

    int points(int deed, int v, int k) {
        return isCase(deed, v, k) ? pointsOf(deed, v, k) : BAD;
    }

    int grave(int deed, int v, int k) {
        return isCase(deed, v, k) ? graveOf(deed, v, k) : BAD;
    }

    int range(int deed, int v, int k) {
        if (!isCase(deed, v, k)) return BAD;
        int[] r = rangeOf(deed, v, k);
        return r == null ? NONE : 1000 * r[0] + r[1];
    }

    int term(int deed, int court, int months, int how) {
        if (!deed(deed) || !in(court, 0, 4) || !in(months, 0, 240)) return BAD;
        if (!List.of(0, 1, 10, 11, 20, 21, 30, 31).contains(how)) return BAD;
        if (standing(deed, now) != NONE) return STATE;
        if (terms.size() == 16) return FULL;
        terms.add(new Term(deed, court, months, how / 10, how % 10 == 1, now, -1));
        return terms.size() - 1;
    }

    int appeal(int term) {
        if (!in(term, 0, terms.size() - 1)) return BAD;
        Term t = terms.get(term);
        if (!stands(t, now)) return STATE;
        terms.set(term, new Term(t.deed, t.court, t.months, t.reason, t.drawn, t.passed, now));
        return many(6);
    }

    int amiss(int k) {
        if (!day(k)) return BAD;
        int bits = 0;
        for (int i = 0; i < terms.size(); i++) {
            Term t = terms.get(i);
            if (!stands(t, k)) continue;
            int[] r = rangeOf(t.deed, theLaw(t.deed, t.passed), k);
            if (r == null || !in(t.months, r[0], r[1]) && t.reason == 0) bits += 1 << i;
        }
        return bits;
    }

    int held(int person, int from, int to) {
        if (!person(person) || from < 0 || to < from || to > now) return BAD;
        if (helds.size() == 12) return FULL;
        helds.add(new Held(person, from, to));
        return helds.size();
    }

    private int beginOf(int term, List<int[]> ahead, int k) {
        Term t = terms.get(term);
        int latest = -1;
        for (int[] row : ahead) latest = Math.max(latest, row[2]);
        int v = theLaw(t.deed, t.passed);
        boolean beside = false;
        if (v != NONE) {
            for (List<String> line : laws.get(v).lines) {
                if (line.get(0).equals("beside")) beside |= holds(line.subList(2, line.size()), t.deed, v, k);
            }
        }
        return latest > t.passed && !beside ? latest : t.passed;
    }

    private List<int[]> time(int person, int k) {
        List<int[]> time = new ArrayList<>();
        for (int i = 0; i < terms.size(); i++) {
            Term t = terms.get(i);
            if (deeds.get(t.deed).person != person || !stands(t, k)) continue;
            int begin = beginOf(i, time, k);
            time.add(new int[] {i, begin, begin + 30 * t.months});
        }
        return time;
    }

    int credit(int person, int k) {
        if (!person(person) || !day(k)) return BAD;
        List<int[]> time = time(person, k);
        if (time.isEmpty()) return 0;
        boolean[] marked = new boolean[10000];
        for (Held h : helds) if (h.person == person) Arrays.fill(marked, h.from, h.to + 1, true);
        int count = 0;
        for (int d = 0; d < terms.get(time.get(0)[0]).passed; d++) if (marked[d]) count++;
        return count;
    }

    int good(int person, int n) {
        if (!person(person) || !in(n, 1, 99)) return BAD;
        if (goods.get(person) + n > 999) return STATE;
        goods.set(person, goods.get(person) + n);
        return goods.get(person);
    }

    int release(int person, int k) {
        if (!person(person) || !day(k)) return BAD;
        List<int[]> time = time(person, k);
        if (time.isEmpty()) return NONE;
        int end = 0;
        for (int[] row : time) end = Math.max(end, row[2]);
        return Math.max(end - credit(person, k) - goods.get(person), terms.get(time.get(time.size() - 1)[0]).passed);
    }

    int beds(int day, int k) {
        if (!day(day) || !day(k)) return BAD;
        int count = 0;
        for (int p = 0; p < born.size(); p++) {
            List<int[]> time = time(p, k);
            if (!time.isEmpty() && terms.get(time.get(0)[0]).passed <= day && release(p, k) > day) count++;
        }
        return count;
    }

    int prove(int person) {
        if (!person(person)) return BAD;
        rows = time(person, now);
        return rows.size();
    }

    int row(int i, int what) {
        return in(i, 0, rows.size() - 1) && in(what, 0, 2) ? rows.get(i)[what] : -9;
    }

    int alterRow(int i, int what, int v) {
        int was = row(i, what);
        if (in(i, 0, rows.size() - 1) && in(what, 0, 2)) rows.get(i)[what] = v;
        return was;
    }

    int judge() {
        for (int i = 0; i < rows.size(); i++) {
            int[] row = rows.get(i);
            if (!in(row[0], 0, terms.size() - 1)) return i + 1;
            Term t = terms.get(row[0]);
            if (!stands(t, now) || i > 0 && row[0] <= rows.get(i - 1)[0]) return i + 1;
            if (deeds.get(t.deed).person != deeds.get(terms.get(rows.get(0)[0]).deed).person) return i + 1;
            int begin = beginOf(row[0], rows.subList(0, i), now);
            if (row[1] != begin || row[2] != begin + 30 * t.months) return i + 1;
        }
        return 0;
    }

    int spread(int court, int k, int what) {
        if (!in(court, 0, 4) || !day(k) || !in(what, 0, 4)) return BAD;
        List<Term> drawn = new ArrayList<>();
        for (Term t : terms) if (t.drawn && stands(t, k)) drawn.add(t);
        int own = 0;
        for (int i = 0; i < drawn.size(); i++) if (drawn.get(i).court == court) own |= 1 << i;
        int n = Integer.bitCount(own);
        int m = drawn.size();
        if (what == 0) return n;
        if (what == 1) return m;
        if (n < 2 || m - n < 2) return STATE;
        if (what == 2) return excess(drawn, own) + 1000000;
        int above = 0;
        int below = 0;
        for (int set = 0; set < 1 << m; set++) {
            if (Integer.bitCount(set) != n) continue;
            below++;
            if (excess(drawn, set) >= excess(drawn, own)) above++;
        }
        return what == 3 ? above : below;
    }

    private static int excess(List<Term> drawn, int set) {
        int n = Integer.bitCount(set);
        int sum = 0;
        for (int i = 0; i < drawn.size(); i++) sum += drawn.get(i).months * ((set >> i & 1) == 1 ? drawn.size() - n : -n);
        return sum;
    }

    int another(int v, boolean most) {
        if (!law(v)) return BAD;
        int sum = 0;
        for (Term t : terms) {
            int[] r = stands(t, now) ? rangeOf(t.deed, v, now) : null;
            if (r != null) sum += r[most ? 1 : 0];
        }
        return sum;
    }

    int like(int deed, int k) {
        if (!deed(deed) || !day(k)) return BAD;
        int best = NONE;
        int least = Integer.MAX_VALUE;
        for (int e = 0; e < deeds.size(); e++) {
            if (e == deed || standing(e, k) == NONE) continue;
            int sum = deeds.get(e).kind != deeds.get(deed).kind ? 3 : 0;
            for (int bit = 1; bit < 16; bit *= 2) if ((known(e, k).facts & bit) != (known(deed, k).facts & bit)) sum++;
            if (young(e) ^ young(deed)) sum += 2;
            sum += Math.abs(pointsOf(e, theLaw(e, k), k) - pointsOf(deed, theLaw(deed, k), k));
            if (sum < least) {
                least = sum;
                best = e;
            }
        }
        return best;
    }

    // The host: real rows and what the machine would say of them, asked beforehand.

    private static int sortOf(Object row) {
        if (row instanceof byte[]) return 0;
        if (row instanceof short[]) return 1;
        if (row instanceof int[]) return 2;
        return 3;
    }

    private static int size(Object row) {
        return java.lang.reflect.Array.getLength(row);
    }

    int sheet(int sheet, int sort, int n) {
        if (!in(sheet, 0, 3) || !in(sort, -1, 3)) return BAD;
        if (sort == -1) {
            sheets[sheet] = null;
            return 1;
        }
        if (n > 40) return BAD;
        if (n < 0) return -14;
        Object[] made = {new byte[n], new short[n], new int[n], new boolean[n]};
        sheets[sheet] = made[sort];
        return 1;
    }

    int put(int sheet, int i, int v) {
        if (!in(sheet, 0, 3)) return BAD;
        Object row = sheets[sheet];
        if (row == null) return -11;
        if (!in(i, 0, size(row) - 1)) return -12;
        if (row instanceof byte[] b) b[i] = (byte) v;
        if (row instanceof short[] s) s[i] = (short) v;
        if (row instanceof int[] n) n[i] = v;
        if (row instanceof boolean[] b) b[i] = v != 0;
        return 1;
    }

    int item(int sheet, int sort, int i) {
        if (!in(sheet, 0, 3) || !in(sort, 0, 3)) return BAD;
        Object row = sheets[sheet];
        if (row != null && sortOf(row) != sort) return -13;
        if (row == null) return -11;
        if (!in(i, 0, size(row) - 1)) return -12;
        if (row instanceof boolean[] b) return b[i] ? 1 : 0;
        return ((Number) java.lang.reflect.Array.get(row, i)).intValue();
    }

    int comes(int deed, int sheet, int i, int n) {
        if (!deed(deed) || !in(sheet, 0, 3) || !in(n, 0, 9)) return BAD;
        if (sheets[sheet] != null && sortOf(sheets[sheet]) != 1) return -13;
        if (sheets[sheet] == null) return -11;
        short[] row = (short[]) sheets[sheet];
        int came = 0;
        for (long at = i; at < (long) i + n; at++) {
            if (at < 0 || at >= row.length) return -12;
            int facts = row[(int) at];
            if (!in(facts, 0, 15)) continue;
            if (finding(deed, facts, false) == FULL) return FULL;
            came++;
        }
        return came;
    }

    private boolean thing(int what, int n) {
        int[] sizes = {deeds.size(), findings.size(), terms.size(), laws.size(), 4};
        return what == 5 || in(what, 0, 4) && in(n, 0, sizes[what] - 1);
    }

    int shelf(int shelf, int what, int n) {
        if (!in(shelf, 0, 3) || !thing(what, n)) return BAD;
        shelves[shelf] = what == 4 ? sheets[n] : what == 5 ? null : List.of(what, n);
        return 1;
    }

    /** The kinds of what stands on a shelf, itself first; none if it is no paper. */
    private List<Integer> kinds(int what, int n) {
        if (what == 0) return young(n) ? List.of(2, 1, 0) : List.of(1, 0);
        if (what == 1) return List.of(3, 0);
        if (what == 2) return terms.get(n).drawn ? List.of(5, 4, 0) : List.of(4, 0);
        return List.of(6, 0);
    }

    private int[] paper(int shelf) {
        if (!(shelves[shelf] instanceof List<?> l)) return null;
        int what = (Integer) l.get(0);
        int n = (Integer) l.get(1);
        return thing(what, n) ? new int[] {what, n} : null;
    }

    int taken(int shelf, int as) {
        if (!in(shelf, 0, 3) || !in(as, 0, 6) && !in(as, 10, 13)) return BAD;
        Object held = shelves[shelf];
        if (held != null && !(held instanceof List<?>)) return as == 10 + sortOf(held) ? size(held) : -13;
        int[] paper = paper(shelf);
        if (paper == null) return -11;
        return kinds(paper[0], paper[1]).contains(as) ? paper[1] : -13;
    }

    int act(int shelf, int act, int x) {
        bodies = new ArrayList<>();
        int[] paper = in(shelf, 0, 3) && in(act, 0, 3) ? paper(shelf) : null;
        if (paper == null) return 0;
        int n = paper[1];
        int[] a = {0, 0, 0, 0};
        if (paper[0] == 0) a[0] = deeds.get(n).kind;
        if (paper[0] == 1) a[1] = findings.get(n).facts;
        if (paper[0] == 2) a[2] = terms.get(n).months;
        if (paper[0] == 3) a[3] = laws.get(n).lines.size();
        try {
            return run(kinds(paper[0], n), 0, act, x, n, a[paper[0]]);
        } catch (ArithmeticException parted) {
            return -15;
        }
    }

    /** Runs the first body of an act among the kinds from one on. */
    private int run(List<Integer> kinds, int from, int act, int x, int n, int a) {
        int[][] numbers = {{10, 11, 12, 13}, {20, 0, 0, 0}, {0, 30, 0, 0}, {0, 0, 40, 41}, {0, 50, 0, 0}, {60, 0, 61, 0}, {0, 0, 0, 70}};
        int i = from;
        while (numbers[kinds.get(i)][act] == 0) i++;
        int body = numbers[kinds.get(i)][act];
        bodies.add(body);
        switch (body) {
            case 10: return x * 2 + n;
            case 11: return run(kinds, 0, 0, x, n, a) - a;
            case 12: return x / (a - n);
            case 13: return run(kinds, 0, 1, x, n, a) ^ a;
            case 20: return run(kinds, i + 1, 0, x, n, a) + a;
            case 30: return run(kinds, i + 1, 1, x, n, a) - run(kinds, 0, 0, 0, n, a);
            case 40: return run(kinds, i + 1, 2, x + 2, n, a);
            case 41: return run(kinds, i + 1, 3, x, n, a) * 5;
            case 50: return run(kinds, i + 1, 1, x, n, a) + 30;
            case 60: return run(kinds, i + 1, 0, x, n, a) ^ 6;
            case 61: return run(kinds, i + 1, 2, x, n, a) - 1;
            default: return run(kinds, i + 1, 3, x, n, a) + run(kinds, 0, 0, a, n, a);
        }
    }

    int trace(int i) {
        return in(i, 0, bodies.size() - 1) ? bodies.get(i) : NONE;
    }

    int many(int what) {
        int stand = 0;
        for (Term t : terms) if (stands(t, now)) stand++;
        int[] all = {now, born.size(), deeds.size(), findings.size(), laws.size(), terms.size(), stand, helds.size(),
            rows.size(), tape.length(), bodies.size()};
        return in(what, 0, 10) ? all[what] : BAD;
    }

    private void copy(GridModel from) {
        now = from.now;
        born = new ArrayList<>(from.born);
        goods = new ArrayList<>(from.goods);
        deeds = new ArrayList<>(from.deeds);
        findings = new ArrayList<>(from.findings);
        laws = new ArrayList<>(from.laws);
        terms = new ArrayList<>(from.terms);
        helds = new ArrayList<>(from.helds);
    }

    int keep() {
        kept = new GridModel();
        kept.copy(this);
        return 1;
    }

    int again() {
        if (kept == null) return NONE;
        copy(kept);
        return 1;
    }
}
