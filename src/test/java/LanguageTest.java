import java.io.IOException;
import java.lang.reflect.Constructor;
import java.lang.reflect.Field;
import java.lang.reflect.Method;
import java.lang.reflect.Modifier;
import java.nio.file.Files;
import java.nio.file.Path;
import java.util.ArrayList;
import java.util.HashMap;
import java.util.HashSet;
import java.util.List;
import java.util.Map;
import java.util.Set;
import java.util.TreeSet;
import java.util.regex.Matcher;
import java.util.regex.Pattern;

/** What of LANGUAGE.md can be seen from the source and by reflection. */
public final class LanguageTest {
    private static final String FACE = "feed(int) house() fault() told(int) cell(int,int) cloth(int,int) actor(int,int) "
        + "night(int) cut(int) go(int,int) dress(int,int,int) drift(int) undo() who(int) wholeBy() stands(int,int,int) "
        + "hidden() cannot() sewing(int) least(int,int) moths() thread(int,int) see(int,boolean) wasCut() watch() "
        + "write(int,int) tear() judge() seed(int) keep(int) goBack(int)";
    private static final Pattern HEAD = Pattern.compile("^( {8}| {4})(?! |return|else|new)[\\w\\[\\] ]*?\\b(\\w+)\\(([^()]*)\\) \\{$");
    private static final String CONSTANTS = "FULL=-1000000004 NONE=-1 NOT=-1000000003 OUTSIDE=-1000000002 UNKNOWN=-1000000001";
    private static final Set<String> LIBRARY = Set.of("Integer.bitCount", "Integer.compare", "Math.max", "Math.min", "System.arraycopy");
    private static final Pattern LOOP = Pattern.compile("for \\(int (\\w+) = [^;]+; \\1 (?:<=?|>=?) [^;]+; (?:\\1\\+\\+|\\1--|\\1 = \\(\\1 - 1\\) & \\w+)\\) \\{");
    private static final int MOST_LINES = 60;
    private static final int MOST_DEEP = 8;
    private static final int MOST_CLASSES = 12;
    private static final int MOST_FIELDS = 20;

    public static void main(String[] args) throws IOException, IllegalAccessException {
        String source = Files.readString(Path.of("src/main/java/BaredCurtain.java"));
        face();
        nestedClasses();
        forbiddenWords(source);
        library(bare(source));
        loops(bare(source));
        divisors(bare(source));
        methods(source);
        Due.end("LanguageTest");
    }

    private static void face() throws IllegalAccessException {
        Due.in("rule 1");
        Set<String> due = new TreeSet<>(List.of(FACE.split(" ")));
        Set<String> got = new TreeSet<>();
        for (Method m : BaredCurtain.class.getDeclaredMethods()) {
            boolean open = Modifier.isPublic(m.getModifiers());
            Due.holds(m + " is neither public nor private", open || Modifier.isPrivate(m.getModifiers()));
            if (open) {
                Due.holds(m + " answers no int", m.getReturnType() == int.class);
                got.add(signature(m));
            }
        }
        Due.holds("the face is " + got, got.equals(due));
        Set<String> constants = new TreeSet<>();
        for (Field f : BaredCurtain.class.getDeclaredFields()) {
            if (!Modifier.isPrivate(f.getModifiers())) {
                Due.holds(f + " is no constant of the face", f.getType() == int.class
                    && f.getModifiers() == (Modifier.PUBLIC | Modifier.STATIC | Modifier.FINAL));
                constants.add(f.getName() + "=" + f.getInt(null));
            }
        }
        Due.holds("the constants are " + constants, String.join(" ", constants).equals(CONSTANTS));
        Constructor<?>[] made = BaredCurtain.class.getDeclaredConstructors();
        Due.holds("one public constructor", made.length == 1 && Modifier.isPublic(made[0].getModifiers())
            && made[0].getParameterCount() == 0);
        Due.holds("public and final", Modifier.isPublic(BaredCurtain.class.getModifiers())
            && Modifier.isFinal(BaredCurtain.class.getModifiers()));
    }

    private static String signature(Method m) {
        StringBuilder s = new StringBuilder(m.getName()).append('(');
        for (Class<?> type : m.getParameterTypes()) {
            s.append(s.charAt(s.length() - 1) == '(' ? "" : ",").append(type.getName());
        }
        return s.append(')').toString();
    }

    private static List<Class<?>> classes() {
        List<Class<?>> all = new ArrayList<>();
        all.add(BaredCurtain.class);
        all.addAll(List.of(BaredCurtain.class.getDeclaredClasses()));
        return all;
    }

    private static void nestedClasses() {
        Due.in("rules 1, 2, 5 and 11");
        Set<String> open = new HashSet<>();
        for (String name : FACE.split(" ")) {
            open.add(name.substring(0, name.indexOf('(')));
        }
        Due.holds("too many classes", classes().size() <= MOST_CLASSES);
        for (Class<?> type : classes()) {
            boolean nested = type != BaredCurtain.class;
            Due.holds(type + " is not static", !nested || Modifier.isStatic(type.getModifiers()));
            Due.holds(type + " is public", !nested || !Modifier.isPublic(type.getModifiers()));
            Due.holds(type + " has classes inside", !nested || type.getDeclaredClasses().length == 0);
            int fields = 0;
            for (Field f : type.getDeclaredFields()) {
                fields += Modifier.isStatic(f.getModifiers()) ? 0 : 1;
                Due.holds(f + " is static, not final", !Modifier.isStatic(f.getModifiers()) || Modifier.isFinal(f.getModifiers()));
            }
            Due.holds(type + " has " + fields + " fields", fields <= MOST_FIELDS);
            for (Method m : type.getDeclaredMethods()) {
                Due.holds(m + " takes too much", m.getParameterCount() <= 7);
                Due.holds(m + " has a public one's name", Modifier.isPublic(m.getModifiers()) || !open.contains(m.getName()));
            }
        }
    }

    /** The source without its comments and without what stands in quotes. */
    private static String bare(String source) {
        return source.replaceAll("(?s)/\\*.*?\\*/", "").replaceAll("//[^\n]*", "")
            .replaceAll("\"[^\"\n]*\"", "\"\"").replaceAll("'[^'\n]*'", "0");
    }

    private static void forbiddenWords(String source) {
        Due.in("rules 2, 4, 6, 10 and 13");
        for (int i = 0; i < source.length(); i++) {
            if (source.charAt(i) > 126 || source.charAt(i) == '\t') {
                Due.fail("a sign of number " + (int) source.charAt(i) + " at " + i);
            }
        }
        String bare = bare(source);
        for (String word : List.of("throw", "throws", "try", "catch", "synchronized", "assert", "import", "package", "instanceof",
                "equals", "hashCode", "toString", "double", "float", "Thread", "Random", "System\\.(?!arraycopy)\\w*", "\\w+Exact",
                "var", "yield", "volatile", "transient", "native", "Object", "Runtime", "enum", "interface", "record")) {
            Matcher m = Pattern.compile("\\b" + word + "\\b").matcher(bare);
            Due.holds("the word " + word, !m.find());
        }
        for (String sign : List.of("->", "::", "@", "while (true)", "for (;;)")) {
            Due.holds("the sign " + sign, !bare.contains(sign));
        }
    }

    /** All that is called by a class's name, but for the class's own, is what rule 4 lists; a cast is to int alone. */
    private static void library(String bare) {
        Due.in("rules 3, 4 and 6");
        Matcher call = Pattern.compile("\\b([A-Z]\\w*\\.\\w+)\\(").matcher(bare);
        while (call.find()) {
            Due.holds("the call of " + call.group(1), LIBRARY.contains(call.group(1)));
        }
        Matcher cast = Pattern.compile("[=(,] ?\\((\\w+)\\) ?[\\w(]|return \\((\\w+)\\) ?[\\w(]").matcher(bare);
        while (cast.find()) {
            String type = cast.group(1) == null ? cast.group(2) : cast.group(1);
            Due.holds("the cast to " + type, type.equals("int"));
        }
        Due.holds("an array of arrays", !bare.replaceAll("\\s", "").contains("[]["));
        Due.holds("a text", !bare.contains("\"") && !Pattern.compile("\\bString").matcher(bare).find());
    }

    private static void loops(String bare) {
        Due.in("rule 9");
        Due.holds("a loop by while", !Pattern.compile("\\b(while|do)\\b").matcher(bare).find());
        Matcher loop = Pattern.compile("\\bfor \\([^\n]*").matcher(bare);
        int found = 0;
        while (loop.find()) {
            found++;
            Due.holds("its end is not seen: " + loop.group(), LOOP.matcher(loop.group()).matches());
        }
        Due.holds("loops were found: " + found, found > 40);
    }

    /** What is divided by is a number written out, or was looked at on the same line. */
    private static void divisors(String bare) {
        Due.in("rule 7");
        for (String line : bare.split("\n")) {
            Matcher by = Pattern.compile("[/%]=? *([A-Za-z_(]\\w*)").matcher(line);
            while (by.find()) {
                Due.holds(by.group(1) + " divides unseen: " + line.strip(), line.contains(by.group(1) + " > 0 ?"));
            }
        }
    }

    /** A name that stands in an index was held against both ends in the same method, or counts a loop from 0. */
    private static void indices(String name, String body) {
        Matcher index = Pattern.compile("\\b\\w+\\[([^\\]]*)\\]").matcher(body);
        while (index.find()) {
            Matcher used = Pattern.compile("\\b[a-z]\\w*\\b").matcher(index.group(1));
            while (used.find()) {
                String v = used.group();
                boolean seen = body.contains(v + " >= 0 && " + v + " < ") || body.contains(v + " < 0 || " + v + " >= ")
                    || body.contains("for (int " + v + " = 0; " + v + " < ");
                Due.holds(name + " uses " + index.group() + " unseen", seen);
            }
        }
    }

    private static void methods(String source) {
        Due.in("rules 7, 8, 11 and 12");
        Map<String, Set<String>> calls = new HashMap<>();
        String[] lines = bare(source).split("\n");
        for (int i = 0; i < lines.length; i++) {
            Matcher head = HEAD.matcher(lines[i]);
            if (!head.matches()) {
                continue;
            }
            String close = head.group(1) + "}";
            StringBuilder body = new StringBuilder();
            int end = i + 1;
            while (end < lines.length && !lines[end].equals(close)) {
                body.append(lines[end++]).append('\n');
            }
            String name = head.group(2);
            Due.holds(name + " is long", end - i + 1 <= MOST_LINES);
            Due.holds(name + " makes an object", !Pattern.compile("\\bnew\\b|\\.clone\\(|copyOf").matcher(body).find());
            indices(name, body.toString());
            Set<String> called = calls.computeIfAbsent(name, k -> new HashSet<>());
            Matcher call = Pattern.compile("\\b(\\w+)\\(").matcher(body);
            while (call.find()) {
                called.add(call.group(1));
            }
        }
        Due.holds("methods were found: " + calls.size(), calls.size() > 90);
        for (String name : calls.keySet()) {
            int deep = deep(name, calls, new ArrayList<>());
            Due.holds(name + " goes " + deep + " deep", deep <= MOST_DEEP);
        }
    }

    /** How many methods stand open at once at the most, by their names; one that calls itself is told. */
    private static int deep(String name, Map<String, Set<String>> calls, List<String> open) {
        if (!calls.containsKey(name)) {
            return 0;
        }
        if (open.contains(name) || open.size() > MOST_DEEP) {
            Due.fail("too deep: " + open + " " + name);
            return 1;
        }
        open.add(name);
        int most = 0;
        for (String called : calls.get(name)) {
            most = Math.max(most, deep(called, calls, open));
        }
        open.remove(open.size() - 1);
        return most + 1;
    }
}
