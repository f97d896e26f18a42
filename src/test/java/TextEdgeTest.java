import java.util.ArrayList;
import java.util.List;

/** The bounds that section 2 of the document's terms tells of THE TAPE, of TEXTS and of VERSIONS, and the promises 8 to 10. */
public final class TextEdgeTest {
    private static final int BAD = -1, FULL = -2, NONE = -3;
    private static final int MIN = Integer.MIN_VALUE, MAX = Integer.MAX_VALUE;
    private static final String[] LINES = {
        "grave 0 1", "points 5 9", "old 90", "range 4 3 0 to 240", "up 4 if weapon and not hurt or ( helped )",
        "down 0 if gave or young and pleaded", "beside if points + 1 < kind + age + 999", "back",
        "up 1 if ( not ( 1 = 2 and kind > 3 ) or age < 7 + 0 )",
    };
    private static PenaltyGrid g;

    public static void main(String[] args) {
        feedCount();
        tapeTakes250();
        tapeTakesTheLowestFirst();
        readUsesTheTapeUp();
        anEmptyTape();
        aFullTape();
        twelveLines();
        endsTooEarly();
        goesOnTooLong();
        otherWords();
        numbersOfGraveAndPoints();
        numbersOfOld();
        numbersOfRange();
        numbersOfUpAndDown();
        numbersOfCond();
        threeDigits();
        rowsGoAsLongAsTheyGo();
        lettersAndDigits();
        wordsAlmostRight();
        blanks();
        fourOpen();
        sixVersions();
        versionWhat();
        Check.end();
    }

    private static void about(String sentence) {
        Check.about(sentence);
        g = new PenaltyGrid();
    }

    private static void due(String call, long got, long want) {
        Check.due(call, got, want);
    }

    private static int read(String text) {
        return Check.read(g, text);
    }

    private static void fault(String text, int place) {
        g = new PenaltyGrid();
        due("read of '" + text + "'", read(text), -100 - place);
        due("versions behind '" + text + "'", g.many(4), 0);
    }

    private static void right(String text) {
        g = new PenaltyGrid();
        due("read of '" + text + "'", read(text), 0);
    }

    private static String blanks(int n) {
        return " ".repeat(n);
    }

    private static void feedCount() {
        about("n bytes (1 to 8) come to THE TAPE: how many it has. BAD");
        int[] wrong = {MIN, -1, 0, 9, 16, MAX};
        for (int n : wrong) due("feed " + n, g.feed(0x2020202020202020L, n), BAD);
        due("bytes", g.many(9), 0);
        int bytes = 0;
        for (int n = 1; n <= 8; n++) {
            bytes += n;
            due("feed " + n, g.feed(0x2020202020202020L, n), bytes);
            due("bytes", g.many(9), bytes);
        }
    }

    private static void tapeTakes250() {
        about("THE TAPE takes bytes, 250 at most; FULL: more than 250");
        for (int n = 1; n <= 8; n++) {
            g = new PenaltyGrid();
            for (int i = 0; i < 30; i++) g.feed(0x2020202020202020L, 8);
            due("240 and 2", g.feed(0x2020, 2), 242);
            for (int i = 0; i < 8 - n; i++) g.feed(' ', 1);
            for (int more = n + 1; more <= 8; more++) due(250 - n + " and " + more, g.feed(0x2020202020202020L, more), FULL);
            due("a feed of 9", g.feed(0x2020202020202020L, 9), BAD);
            due("bytes", g.many(9), 250 - n);
            due(250 - n + " and " + n, g.feed(0x2020202020202020L, n), 250);
            due("one more", g.feed(' ', 1), FULL);
            due("eight more", g.feed(' ', 8), FULL);
            due("none more", g.feed(' ', 0), BAD);
            due("bytes", g.many(9), 250);
        }
        about("a refused feed brings no byte");
        read(blanks(245) + "back");
        read(blanks(245) + "back");
        Check.feed(g, blanks(245) + "bac");
        due("eight more", g.feed('k', 8), FULL);
        due("the rest", g.feed('k' | ';' << 8, 2), 250);
        due("read", g.read(), 0);
    }

    private static void tapeTakesTheLowestFirst() {
        about("n bytes of eight, the lowest first");
        due("the four lowest", g.feed(0x787878786b636162L, 4), 4);
        due("the lowest", g.feed(0x783b, 1), 5);
        due("read", g.read(), 0);
        g.feed(0x787878786b636162L, 4);
        due("of a number below 0, the lowest", g.feed(-256L | ';', 1), 5);
        due("read", g.read(), 1);
        g.feed(0x20203b6b63616220L, 8);
        due("all eight", g.read(), 2);
        g.feed(0x3b6b636162202020L, 8);
        due("the highest, too", g.read(), 3);
        g.feed(0xff6b636162202020L, 8);
        due("the highest is -1", g.read(), -107);
    }

    private static void readUsesTheTapeUp() {
        about("read() uses it up");
        due("right", read("back;"), 0);
        due("bytes", g.many(9), 0);
        due("a fault", read("old "), -104);
        due("bytes", g.many(9), 0);
        due("nothing of it is left", read("5;"), -100);
        due("bytes", g.many(9), 0);
        for (int i = 1; i < 6; i++) read("back;");
        due("full", read("back;"), FULL);
        due("bytes", g.many(9), 0);
        due("nothing of it is left", g.read(), FULL);
        for (int i = 0; i < 32; i++) g.feed(' ', i < 31 ? 8 : 2);
        due("a full one", g.many(9), 250);
        g.read();
        due("bytes", g.many(9), 0);
        due("it takes bytes again", g.feed(' ', 8), 8);
    }

    private static void anEmptyTape() {
        about("THE TAPE is the TEXT of a LAW: an empty one");
        due("read", g.read(), 0);
        due("lines", g.version(0, 0), 0);
        due("day", g.version(0, 1), 0);
        due("back", g.version(0, 2), 0);
        due("line 0", g.version(0, 10), BAD);
        g.person(20, 0);
        g.deed(0, 5, 0);
        due("the law", g.law(0, 0), 0);
        due("points", g.points(0, 0, 0), 0);
        due("grave", g.grave(0, 0, 0), 0);
        due("range", g.range(0, 0, 0), NONE);
        due("blanks alone", read(blanks(250)), 1);
        due("lines", g.version(1, 0), 0);
    }

    private static void aFullTape() {
        about("a TEXT of 250 bytes");
        right(blanks(245) + "back;");
        right("back;" + blanks(245));
        fault(blanks(246) + "back", 250);
        fault(blanks(249) + ";", 249);
        fault(blanks(247) + "bac", 247);
        fault("up 1 if" + blanks(243), 250);
        StringBuilder sum = new StringBuilder("up 1 if 1");
        while (sum.length() < 247) sum.append("+1");
        right(sum + "=1;");
        fault(sum + "=1+", 250);
        fault(sum + "+1<", 250);
        fault(sum + "=11", 250);
        StringBuilder not = new StringBuilder("beside if ");
        while (not.length() < 244) not.append("not");
        fault(not.toString(), 10);
        not.setLength(10);
        while (not.length() < 242) not.append("not ");
        right(not + "young;");
        fault(not + "young", not.length() + 5);
        StringBuilder and = new StringBuilder("beside if gave");
        while (and.length() < 241) and.append(" and gave");
        right(and + ";");
        StringBuilder open = new StringBuilder("beside if ");
        while (open.length() < 250) open.append('(');
        fault(open.toString(), 14);
    }

    private static void twelveLines() {
        about("12 LINES at most (the thirteenth LINE: its first WORD)");
        for (String line : LINES) {
            if (line.length() > 18) continue;
            String twelve = (line + ";").repeat(12);
            right(twelve);
            due("lines", g.version(0, 0), 12);
            due("the last", g.version(0, 21), g.version(0, 10));
            due("behind the last", g.version(0, 22), BAD);
            right(twelve + " ");
            fault(twelve + line + ";", twelve.length());
            fault(twelve + " " + line, twelve.length() + 1);
            fault(twelve + "back", twelve.length());
            fault(twelve + "ba", twelve.length());
            fault(twelve + ";", twelve.length());
            fault(twelve + "  7", twelve.length() + 2);
            fault(twelve.substring(0, twelve.length() - 1), twelve.length() - 1);
        }
        right("back;".repeat(11));
        due("lines", g.version(0, 0), 11);
        fault("back;".repeat(13), 60);
        fault("back;".repeat(13) + "old 91;", 60);
        fault("back;".repeat(11) + "old 91;back;", 59);
    }

    private static List<String> tokens(String line) {
        List<String> tokens = new ArrayList<>();
        for (String token : (line + " ;").split(" ")) tokens.add(token);
        return tokens;
    }

    /** The first so many tokens with a blank behind each. */
    private static String joined(List<String> tokens, int n) {
        StringBuilder text = new StringBuilder();
        for (int i = 0; i < n; i++) text.append(tokens.get(i)).append(' ');
        return text.toString();
    }

    private static void endsTooEarly() {
        about("or the end (how many bytes there are), if more must come");
        for (String line : LINES) {
            List<String> tokens = tokens(line);
            right(joined(tokens, tokens.size()));
            for (int n = 1; n < tokens.size(); n++) {
                String text = joined(tokens, n);
                fault(text, text.length());
                fault(text.trim(), text.length() - 1);
                fault("back;" + text + "   ", text.length() + 8);
            }
        }
    }

    private static void goesOnTooLong() {
        about("the first byte of the first WORD, NUMBER or other byte with which no TEXT goes on (one too many)");
        String[] flags = {"back", "old 5", "grave 0 1", "points 0 1", "range 0 0 1 to 2", "up 1 if young", "down 1 if not gave",
            "beside if (hurt)"};
        String[] more = {"back", "0", "to", "if", "not", "weapon", "points", "(", ")", "<", "+", "x", "!", "1000"};
        for (String line : flags) {
            for (String word : more) fault(line + " " + word + ";", line.length() + 1);
        }
        String[] sums = {"up 1 if 1<2", "beside if kind+1 = age"};
        String[] moreThanASum = {"back", "0", "to", "if", "not", "weapon", "points", "(", ")", "<", "=", ">", "x", "!", "1000"};
        for (String line : sums) {
            for (String word : moreThanASum) fault(line + " " + word + ";", line.length() + 1);
        }
        fault("back;;", 5);
        fault(";", 0);
        fault(" ;", 1);
        fault("back; ;", 6);
        fault("back,", 4);
    }

    private static void otherWords() {
        about("the first byte of the first WORD, NUMBER or other byte with which no TEXT goes on (another one)");
        String[] others = {"x", "grav", "graves", "1000", "!", "*"};
        for (String line : LINES) {
            List<String> tokens = tokens(line);
            for (int i = 0; i < tokens.size(); i++) {
                String ahead = joined(tokens, i);
                List<String> behind = tokens.subList(i + 1, tokens.size());
                for (String other : others) fault(ahead + other + " " + joined(behind, behind.size()), ahead.length());
            }
        }
        String[] conditions = {"up 0 if ", "down 0 if ", "beside if ", "up 0 if (", "up 0 if not ", "up 0 if young and ", "up 0 if young or "};
        String[] noConditions = {"and", "or", "if", "to", "grave", "old", "range", "up", "down", "beside", "back", ";", ")", "<", "=", ">", "+"};
        for (String ahead : conditions) {
            for (String word : noConditions) fault(ahead + word + " ", ahead.length());
        }
        String[] sums = {"up 0 if 1 + ", "up 0 if 1 < ", "up 0 if kind = 1 + "};
        String[] noValues = {"weapon", "hurt", "helped", "gave", "young", "pleaded", "not", "(", "and", "or", ";", ")", "<", "=", ">", "+"};
        for (String ahead : sums) {
            for (String word : noValues) fault(ahead + word + " ", ahead.length());
        }
        String[] noComparisons = {"and", "or", ";", ")", "(", "1", "kind", "young"};
        for (String word : noComparisons) fault("up 0 if 1 " + word + " ", 10);
        String[] flags = {"weapon", "hurt", "helped", "gave", "young", "pleaded"};
        for (String flag : flags) {
            fault("up 0 if " + flag + "<1;", 8 + flag.length());
            fault("up 0 if " + flag + "+1<1;", 8 + flag.length());
            right("up 0 if " + flag + ";");
        }
        fault("up 0 if points;", 14);
        fault("up 0 if (points);", 15);
        fault("up 0 if (1+1)<2;", 12);
        fault("up 0 if not 1;", 13);
        fault("up 0 if young not gave;", 14);
    }

    /** A number in a line: what stands ahead of it and behind it, the least and the most. */
    private static void number(String ahead, String behind, int least, int most) {
        right(ahead + least + behind);
        right(ahead + most + behind);
        fault(ahead + (most + 1) + behind, ahead.length());
        fault(ahead + "-1" + behind, ahead.length());
        fault(ahead + 999 + behind, ahead.length());
        if (least > 0) fault(ahead + (least - 1) + behind, ahead.length());
    }

    private static void numbersOfGraveAndPoints() {
        about("N: the first of grave and points 0 to 5 (a KIND), their second 0 to 9");
        number("grave ", " 0;", 0, 5);
        number("grave 5 ", ";", 0, 9);
        number("points ", " 0;", 0, 5);
        number("points 5 ", ";", 0, 9);
    }

    private static void numbersOfOld() {
        about("N: of old 0 to 90");
        number("old ", ";", 0, 90);
    }

    private static void numbersOfRange() {
        about("N: of range 0 to 4 (GRAVE), 0 to 3 (OFTEN), 0 to 240, and 0 to 240, not below that");
        number("range ", " 0 1 to 2;", 0, 4);
        number("range 4 ", " 1 to 2;", 0, 3);
        number("range 4 3 ", " to 240;", 0, 240);
        number("range 4 3 0 to ", ";", 0, 240);
        number("range 4 3 100 to ", ";", 100, 240);
        number("range 4 3 240 to ", ";", 240, 240);
        number("range 4 3 1 to ", ";", 1, 240);
        right("range 0 0 9 to 10;");
        fault("range 0 0 10 to 9;", 16);
        right("range 0 0 007 to 7;");
    }

    private static void numbersOfUpAndDown() {
        about("N: of up, down 0 to 4");
        number("up ", " if young;", 0, 4);
        number("down ", " if young;", 0, 4);
    }

    private static void numbersOfCond() {
        about("N: of a COND 0 to 999");
        String[] behind = {"up 0 if kind < ", "up 0 if 0 + ", "down 0 if 1 = 2 + ", "beside if ("};
        for (String ahead : behind) {
            String rest = ahead.indexOf('(') >= 0 ? "<1);" : ahead.indexOf('<') >= 0 || ahead.indexOf('=') >= 0 ? ";" : "<1;";
            right(ahead + "0" + rest);
            right(ahead + "999" + rest);
            right(ahead + "000" + rest);
            fault(ahead + "1000" + rest, ahead.length());
            fault(ahead + "0000" + rest, ahead.length());
            fault(ahead + "-1" + rest, ahead.length());
        }
        about("a COND's sums go beyond 999");
        g = new PenaltyGrid();
        g.person(20, 0);
        g.deed(0, 0, 0);
        String nines = "999" + "+999".repeat(50);
        due("read", read("up 1 if " + nines + ">999;"), 0);
        due("51 times 999 are more than 999", g.grave(0, 0, 0), 1);
        due("read", read("up 1 if " + "999" + "+999".repeat(25) + "=" + "999" + "+999".repeat(25) + ";"), 1);
        due("26 times 999 on either side", g.grave(0, 1, 0), 1);
        due("read", read("up 1 if " + "999" + "+999".repeat(25) + "=" + "999" + "+999".repeat(24) + "+998;"), 2);
        due("1 less on one side", g.grave(0, 2, 0), 0);
        for (int v = 3; v < 6; v++) {
            due("a long one with a fault", read("up 1 if " + nines + ">999"), -100 - (8 + nines.length() + 4));
            due("read", read("up 1 if " + nines + ">999;"), v);
            due("one more of 51 times 999", g.grave(0, v, 0), 1);
        }
    }

    private static void threeDigits() {
        about("NUMBERS rows of digits (3 at most)");
        right("old 090;");
        fault("old 0090;", 4);
        right("grave 000 001;");
        fault("grave 0000 1;", 6);
        fault("grave 0 0001;", 8);
        fault("range 0 0 0001 to 2;", 10);
        fault("range 0 0 1 to 0240;", 15);
        fault("up 0004 if young;", 3);
        fault("old 12345678901234567890;", 4);
        fault("old 4294967296;", 4);
        fault("old 4294967301;", 4);
        fault("old 18446744073709551621;", 4);
    }

    private static void rowsGoAsLongAsTheyGo() {
        about("as long as they go; blanks between");
        right("grave0 1;");
        right("old5;");
        right("range 0 0 1to2;");
        right("up1if1<2and young;");
        fault("up1if1<2andyoung;", 8);
        fault("up1ifyoung;", 3);
        fault("grave 01;", 8);
        fault("gr ave 0 1;", 0);
        fault("old 1 0;", 6);
        fault("backback;", 0);
        fault("range 0 0 1 t o 2;", 12);
        right("up 1 if(young)and(gave)or not(hurt);");
        fault("up 1 if notyoung;", 8);
        right("back;back;");
        right("back ; back ; ");
    }

    private static void lettersAndDigits() {
        about("WORDS are rows of letters a to z, NUMBERS rows of digits");
        char[] beside = {'`', '{', 'A', 'Z', '@', '[', '_', (char) 0xe9, (char) 0};
        for (char c : beside) {
            fault(c + "back;", 0);
            fault("back" + c + ";", 4);
            fault("ba" + c + "ck;", 0);
        }
        char[] besideDigits = {'/', ':', '.', '-', (char) 0xb2, (char) 0x80};
        for (char c : besideDigits) {
            fault("old " + c + "5;", 4);
            fault("old 5" + c + ";", 5);
        }
        String[] letters = {"a", "b", "m", "y", "z"};
        for (String letter : letters) {
            fault("back" + letter + ";", 0);
            fault(letter + "back;", 0);
            fault("up 1 if young" + letter + ";", 8);
        }
        String[] digits = {"0", "1", "8", "9"};
        for (String digit : digits) {
            fault("back" + digit + ";", 4);
            fault("old 10" + digit + ";", 4);
        }
        fault("Back;", 0);
        fault("BACK;", 0);
        fault("old a;", 4);
        fault("old z;", 4);
        fault("5;", 0);
        right("old 89;");
        right("old 10;");
    }

    /** Each word where it is right, but with a part of it alone, a letter too many or another one. */
    private static void wordsAlmostRight() {
        about("WORDS are rows of letters a to z: the whole of them");
        String[][] places = {{"", "grave", " 0 1;"}, {"", "points", " 0 1;"}, {"", "old", " 1;"}, {"", "range", " 0 0 1 to 2;"},
            {"range 0 0 1 ", "to", " 2;"}, {"", "up", " 1 if young;"}, {"", "down", " 1 if young;"}, {"up 1 ", "if", " young;"},
            {"", "beside", " if young;"}, {"", "back", ";"}, {"up 1 if ", "weapon", ";"}, {"up 1 if ", "hurt", ";"},
            {"up 1 if ", "helped", ";"}, {"up 1 if ", "gave", ";"}, {"up 1 if ", "young", ";"}, {"up 1 if ", "pleaded", ";"},
            {"up 1 if ", "points", "<1;"}, {"up 1 if ", "kind", "<1;"}, {"up 1 if 1<", "age", ";"}, {"up 1 if ", "not", " gave;"},
            {"up 1 if young ", "and", " gave;"}, {"up 1 if young ", "or", " gave;"}};
        for (String[] place : places) {
            String word = place[1];
            right(place[0] + word + place[2]);
            for (int i = 1; i < word.length(); i++) {
                almost(place, word.substring(i));
                almost(place, word.substring(0, i));
            }
            for (int i = 0; i < word.length(); i++) {
                almost(place, word.substring(0, i) + word.substring(i + 1));
                almost(place, word.substring(0, i + 1) + word.substring(i));
                almost(place, word.substring(0, i) + "j" + word.substring(i + 1));
            }
            almost(place, word + word);
        }
    }

    private static void almost(String[] place, String word) {
        fault(place[0] + word + place[2], place[0].length());
    }

    private static void blanks() {
        about("blanks (32) between");
        int[] others = {0, 9, 10, 13, 31, 33, 127, 160, 255};
        for (int other : others) {
            fault("old" + (char) other + "5;", 3);
            fault((char) other + "back;", 0);
            fault("back;" + (char) other, 5);
        }
        right("old          5          ;          ");
        right("          old 5;");
    }

    private static void fourOpen() {
        about("At most 4 \"(\" are open within one another (the fifth \"(\")");
        String[] heads = {"up 1 if ", "down 1 if ", "beside if ", "up 1 if not ", "up 1 if young or ", "up 1 if young and "};
        for (String head : heads) {
            for (int open = 1; open <= 4; open++) right(head + "(".repeat(open) + "gave" + ")".repeat(open) + ";");
            for (int open = 5; open <= 7; open++) fault(head + "(".repeat(open) + "gave" + ")".repeat(open) + ";", head.length() + 4);
        }
        about("At most 4 \"(\" are open within one another: others are closed");
        right("up 1 if (gave) and (gave) or (gave) and (gave) or (gave) and (gave);");
        right("up 1 if ((((gave)))) and ((((gave)))) or ((((gave))));");
        right("up 1 if (((gave) and (gave)) or ((gave) and ((gave) or (gave))));");
        right("up 1 if ((((gave) or (gave)) or (gave)) or (gave)) or (gave);");
        right("up 1 if (gave and (gave and (gave and (1=2))));");
        fault("up 1 if (gave and (gave and (gave and (gave and (1=2)))));", 48);
        fault("up 1 if ((((gave)))) and (((((gave)))));", 29);
        fault("up 1 if (((gave and ((gave) and (gave)))));", 21);
        about("\"(\" are closed as often as they are opened");
        for (int open = 1; open <= 4; open++) {
            fault("up 1 if " + "(".repeat(open) + "gave" + ")".repeat(open - 1) + ";", 11 + 2 * open);
            fault("up 1 if " + "(".repeat(open) + "gave" + ")".repeat(open + 1) + ";", 12 + 2 * open);
            fault("up 1 if " + "(".repeat(open) + "gave" + ")".repeat(open - 1), 11 + 2 * open);
        }
    }

    private static void sixVersions() {
        about("VERSIONS, 6 at most, numbered as they come; FULL (behind a FAULT)");
        due("version 0 of none", g.version(0, 0), BAD);
        for (int i = 0; i < 6; i++) {
            due("version", read("back;".repeat(i)), i);
            due("versions", g.many(4), i + 1);
            due("its lines", g.version(i, 0), i);
            due("the one behind it", g.version(i + 1, 0), BAD);
        }
        due("the seventh", read("old 5;"), FULL);
        due("the seventh, empty", g.read(), FULL);
        due("the seventh, with a fault", read("old 91;"), -104);
        due("the seventh, that ends too early", read("old 9"), -105);
        due("the seventh, too long", read("back;".repeat(13)), -160);
        due("versions", g.many(4), 6);
        for (int i = 0; i < 6; i++) due("lines of " + i, g.version(i, 0), i);
        due("version 6", g.version(6, 0), BAD);
    }

    private static void versionWhat() {
        about("Of a VERSION: what = 0, 1, 2, 10 + i. BAD: there is none such, another what");
        g.days(9);
        read("back;");
        read("grave 0 1;points 0 1;old 1;range 0 0 0 to 0;up 1 if young;down 1 if young;beside if young;back;old 2;old 3;old 4;old 5;");
        due("lines", g.version(1, 0), 12);
        due("day", g.version(1, 1), 9);
        due("back", g.version(1, 2), 1);
        for (int i = 0; i < 12; i++) due("line " + i, g.version(1, 10 + i), i < 8 ? i : 2);
        int[] wrong = {MIN, -1, 3, 4, 9, 22, 23, MAX};
        for (int what : wrong) due("what " + what, g.version(1, what), BAD);
        due("line 0 of the one with a line", g.version(0, 10), 7);
        due("line 1 of the one with a line", g.version(0, 11), BAD);
        int[] none = {MIN, -1, 2, 6, MAX};
        for (int v : none) {
            due("version " + v, g.version(v, 0), BAD);
            due("line 0 of version " + v, g.version(v, 10), BAD);
        }
        due("without a back", read("grave 0 1;"), 2);
        due("it has none", g.version(2, 2), 0);
        due("its only line", g.version(2, 10), 0);
    }
}
