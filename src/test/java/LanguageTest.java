import java.io.IOException;
import java.lang.reflect.Constructor;
import java.lang.reflect.Field;
import java.lang.reflect.Method;
import java.lang.reflect.Modifier;
import java.nio.charset.StandardCharsets;
import java.nio.file.Files;
import java.nio.file.Path;
import java.util.ArrayList;
import java.util.Arrays;
import java.util.List;
import java.util.TreeSet;
import java.util.regex.Matcher;
import java.util.regex.Pattern;

/** The rules of ../shared/LANGUAGE.md that can be seen from the file's words and the compiled classes. */
public final class LanguageTest {
    private static final String FACE =
        "days(int) person(int,int) age(int,int) deed(int,int,int) finding(int,int,boolean) deedOf(int,int,int) feed(long,int) "
        + "read() version(int,int) law(int,int) points(int,int,int) grave(int,int,int) range(int,int,int) term(int,int,int,int) "
        + "appeal(int) amiss(int) held(int,int,int) credit(int,int) good(int,int) release(int,int) beds(int,int) prove(int) "
        + "row(int,int) alterRow(int,int,int) judge() spread(int,int,int) another(int,boolean) like(int,int) sheet(int,int,int) "
        + "put(int,int,int) item(int,int,int) comes(int,int,int,int) shelf(int,int,int) taken(int,int) act(int,int,int) "
        + "trace(int) many(int) keep() again()";
    private static final List<String> LIBRARY = List.of(
        "Arrays.fill", "Arrays.copyOf", "Math.max", "Math.min", "Math.abs", "Integer.bitCount", "Integer.numberOfTrailingZeros");

    public static void main(String[] args) throws IOException {
        String source = Files.readString(Path.of("src/main/java/PenaltyGrid.java"), StandardCharsets.UTF_8);
        face();
        classes();
        words(source.replaceAll("(?s)/\\*.*?\\*/", " ").replaceAll("//[^\n]*", " "));
        lengths(source);
        Check.end();
    }

    private static String signature(Method m) {
        List<String> types = new ArrayList<>();
        for (Class<?> type : m.getParameterTypes()) types.add(type.getName());
        return m.getName() + "(" + String.join(",", types) + ")";
    }

    private static void face() {
        TreeSet<String> want = new TreeSet<>(Arrays.asList(FACE.split(" ")));
        TreeSet<String> got = new TreeSet<>();
        TreeSet<String> names = new TreeSet<>();
        for (Method m : PenaltyGrid.class.getDeclaredMethods()) {
            if (!Modifier.isPublic(m.getModifiers())) continue;
            got.add(signature(m));
            names.add(m.getName());
            Check.holds(m + " answers an int", m.getReturnType() == int.class && !Modifier.isStatic(m.getModifiers()));
        }
        Check.holds("the face is " + want + ", is " + got, want.equals(got));
        Constructor<?>[] constructors = PenaltyGrid.class.getDeclaredConstructors();
        Check.holds("one public constructor", constructors.length == 1 && Modifier.isPublic(constructors[0].getModifiers()));
        Check.holds("a public final class", Modifier.isFinal(PenaltyGrid.class.getModifiers()));
        for (Method m : PenaltyGrid.class.getDeclaredMethods()) {
            if (Modifier.isPublic(m.getModifiers())) continue;
            Check.holds(m + " is private", Modifier.isPrivate(m.getModifiers()));
        }
        for (Field f : PenaltyGrid.class.getDeclaredFields()) {
            boolean isConstant = List.of("BAD", "FULL", "NONE", "STATE").contains(f.getName());
            Check.holds(f + " is private, or a constant", isConstant == Modifier.isPublic(f.getModifiers())
                && isConstant != Modifier.isPrivate(f.getModifiers()));
        }
        for (Class<?> c : all()) {
            for (Method m : c.getDeclaredMethods()) {
                Check.holds(m + " bears no public method's name", Modifier.isPublic(m.getModifiers()) || !names.contains(m.getName()));
                Check.holds(m + " takes seven at most", m.getParameterCount() <= 7);
            }
        }
    }

    private static List<Class<?>> all() {
        List<Class<?>> all = new ArrayList<>(Arrays.asList(PenaltyGrid.class.getDeclaredClasses()));
        all.add(0, PenaltyGrid.class);
        return all;
    }

    private static void classes() {
        Check.holds("twelve classes at most", all().size() <= 12);
        for (Class<?> c : all()) {
            if (c != PenaltyGrid.class) Check.holds(c + " is private and static", Modifier.isPrivate(c.getModifiers()) && Modifier.isStatic(c.getModifiers()));
            int fields = 0;
            for (Field f : c.getDeclaredFields()) {
                if (!Modifier.isStatic(f.getModifiers())) fields++;
                else Check.holds(f + " is final and plain", Modifier.isFinal(f.getModifiers())
                    && (f.getType().isPrimitive() || f.getType() == String.class));
            }
            Check.holds(c + " has twenty fields at most, has " + fields, fields <= 20);
        }
    }

    private static void words(String code) {
        for (String word : List.of("throw", "throws", "try", "catch", "finally", "synchronized", "assert", "native", "volatile",
                "System", "Object", "Exception", "while", "equals", "hashCode", "toString", "getClass", "Thread", "yield", "var")) {
            Check.holds("the word " + word, !Pattern.compile("\\b" + word + "\\b").matcher(code).find());
        }
        for (String sign : List.of("->", "::", "@", "static {", "+ \"", "\" +", "String[]", "[][][]")) {
            Check.holds("the sign " + sign, !code.contains(sign));
        }
        Matcher imports = Pattern.compile("import ([^;]*);").matcher(code);
        while (imports.find()) Check.holds("import " + imports.group(1), imports.group(1).equals("java.util.Arrays"));
        Matcher calls = Pattern.compile("\\b(Arrays|Math|Integer|Long|String|Character|Boolean)\\.\\w+").matcher(code);
        while (calls.find()) Check.holds("call of " + calls.group(), LIBRARY.contains(calls.group()));
        Check.holds("no package line", !Pattern.compile("(?m)^package\\b").matcher(code).find());
        Check.holds("signs 1 to 127 alone", code.chars().allMatch(c -> c > 0 && c < 128));
    }

    private static void lengths(String source) {
        String[] lines = source.split("\n");
        int from = 0;
        for (int i = 0; i < lines.length; i++) {
            String line = lines[i];
            Check.holds("line " + (i + 1) + " is not too long", line.length() <= 140);
            if (line.matches(" {4,8}[a-zA-Z].*\\) \\{")) from = i;
            if (line.matches(" {4}( {4})?\\}")) Check.holds("method at line " + (from + 1) + " is short", i - from < 60 || !lines[from].contains("("));
        }
    }
}
