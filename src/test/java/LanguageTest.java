import java.io.IOException;
import java.lang.reflect.Constructor;
import java.lang.reflect.Field;
import java.lang.reflect.Method;
import java.lang.reflect.Modifier;
import java.nio.file.Files;
import java.nio.file.Path;
import java.util.ArrayList;
import java.util.HashMap;
import java.util.HashSet;
import java.util.List;
import java.util.Map;
import java.util.Set;
import java.util.TreeSet;
import java.util.regex.Matcher;
import java.util.regex.Pattern;

/** What of LANGUAGE.md can be seen from the source and by reflection. */
public final class LanguageTest {
    private static final String FACE = "feed(int) house() fault() told(int) cell(int,int) cloth(int,int) actor(int,int) "
        + "night(int) cut(int) go(int,int) dress(int,int,int) drift(int) undo() who(int) wholeBy() stands(int,int,int) "
        + "hidden() cannot() sewing(int) least(int,int) moths() thread(int,int) see(int,boolean) wasCut() watch() "
        + "write(int,int) tear() judge() seed(int) keep(int) goBack(int)";
    private static final Pattern HEAD = Pattern.compile("^( {8}| {4})(?! |return|else|new)[\\w\\[\\] ]*?\\b(\\w+)\\(([^()]*)\\) \\{$");
    private static final int MOST_LINES = 60;
    private static final int MOST_DEEP = 8;
    private static final int MOST_CLASSES = 12;
    private static final int MOST_FIELDS = 20;

    public static void main(String[] args) throws IOException {
        String source = Files.readString(Path.of("src/main/java/BaredCurtain.java"));
        face();
        nestedClasses();
        forbiddenWords(source);
        methods(source);
        Due.end("LanguageTest");
    }

    private static void face() {
        Due.in("rule 1");
        Set<String> due = new TreeSet<>(List.of(FACE.split(" ")));
        Set<String> got = new TreeSet<>();
        for (Method m : BaredCurtain.class.getDeclaredMethods()) {
            boolean open = Modifier.isPublic(m.getModifiers());
            Due.holds(m + " is neither public nor private", open || Modifier.isPrivate(m.getModifiers()));
            if (open) {
                Due.holds(m + " answers no int", m.getReturnType() == int.class);
                got.add(signature(m));
            }
        }
        Due.holds("the face is " + got, got.equals(due));
        Set<String> constants = new TreeSet<>();
        for (Field f : BaredCurtain.class.getDeclaredFields()) {
            if (!Modifier.isPrivate(f.getModifiers())) {
                constants.add(f.toString().replace("BaredCurtain.", ""));
            }
        }
        Due.holds("the constants are " + constants, constants.size() == 5);
        Constructor<?>[] made = BaredCurtain.class.getDeclaredConstructors();
        Due.holds("one public constructor", made.length == 1 && Modifier.isPublic(made[0].getModifiers())
            && made[0].getParameterCount() == 0);
        Due.holds("public and final", Modifier.isPublic(BaredCurtain.class.getModifiers())
            && Modifier.isFinal(BaredCurtain.class.getModifiers()));
    }

    private static String signature(Method m) {
        StringBuilder s = new StringBuilder(m.getName()).append('(');
        for (Class<?> type : m.getParameterTypes()) {
            s.append(s.charAt(s.length() - 1) == '(' ? "" : ",").append(type.getName());
        }
        return s.append(')').toString();
    }

    private static List<Class<?>> classes() {
        List<Class<?>> all = new ArrayList<>();
        all.add(BaredCurtain.class);
        all.addAll(List.of(BaredCurtain.class.getDeclaredClasses()));
        return all;
    }

    private static void nestedClasses() {
        Due.in("rules 1, 2, 5 and 11");
        Set<String> open = new HashSet<>();
        for (String name : FACE.split(" ")) {
            open.add(name.substring(0, name.indexOf('(')));
        }
        Due.holds("too many classes", classes().size() <= MOST_CLASSES);
        for (Class<?> type : classes()) {
            boolean nested = type != BaredCurtain.class;
            Due.holds(type + " is not static", !nested || Modifier.isStatic(type.getModifiers()));
            Due.holds(type + " is public", !nested || !Modifier.isPublic(type.getModifiers()));
            Due.holds(type + " has classes inside", !nested || type.getDeclaredClasses().length == 0);
            int fields = 0;
            for (Field f : type.getDeclaredFields()) {
                fields += Modifier.isStatic(f.getModifiers()) ? 0 : 1;
                Due.holds(f + " is static, not final", !Modifier.isStatic(f.getModifiers()) || Modifier.isFinal(f.getModifiers()));
            }
            Due.holds(type + " has " + fields + " fields", fields <= MOST_FIELDS);
            for (Method m : type.getDeclaredMethods()) {
                Due.holds(m + " takes too much", m.getParameterCount() <= 7);
                Due.holds(m + " has a public one's name", Modifier.isPublic(m.getModifiers()) || !open.contains(m.getName()));
            }
        }
    }

    /** The source without its comments and without what stands in quotes. */
    private static String bare(String source) {
        return source.replaceAll("(?s)/\\*.*?\\*/", "").replaceAll("//[^\n]*", "")
            .replaceAll("\"[^\"\n]*\"", "\"\"").replaceAll("'[^'\n]*'", "0");
    }

    private static void forbiddenWords(String source) {
        Due.in("rules 2, 4, 6, 10 and 13");
        for (int i = 0; i < source.length(); i++) {
            if (source.charAt(i) > 126 || source.charAt(i) == '\t') {
                Due.fail("a sign of number " + (int) source.charAt(i) + " at " + i);
            }
        }
        String bare = bare(source);
        for (String word : List.of("throw", "throws", "try", "catch", "synchronized", "assert", "import", "package", "instanceof",
                "equals", "hashCode", "toString", "double", "float", "Thread", "Random", "System\\.(?!arraycopy)\\w*", "\\w+Exact",
                "var", "yield", "volatile", "transient", "native", "Object", "Runtime", "enum", "interface", "record")) {
            Matcher m = Pattern.compile("\\b" + word + "\\b").matcher(bare);
            Due.holds("the word " + word, !m.find());
        }
        for (String sign : List.of("->", "::", "@", "while (true)", "for (;;)")) {
            Due.holds("the sign " + sign, !bare.contains(sign));
        }
    }

    private static void methods(String source) {
        Due.in("rules 8, 11 and 12");
        Map<String, Set<String>> calls = new HashMap<>();
        String[] lines = bare(source).split("\n");
        for (int i = 0; i < lines.length; i++) {
            Matcher head = HEAD.matcher(lines[i]);
            if (!head.matches()) {
                continue;
            }
            String close = head.group(1) + "}";
            StringBuilder body = new StringBuilder();
            int end = i + 1;
            while (end < lines.length && !lines[end].equals(close)) {
                body.append(lines[end++]).append('\n');
            }
            String name = head.group(2);
            Due.holds(name + " is long", end - i + 1 <= MOST_LINES);
            Due.holds(name + " makes an object", !Pattern.compile("\\bnew\\b|\\.clone\\(|copyOf").matcher(body).find());
            Set<String> called = calls.computeIfAbsent(name, k -> new HashSet<>());
            Matcher call = Pattern.compile("\\b(\\w+)\\(").matcher(body);
            while (call.find()) {
                called.add(call.group(1));
            }
        }
        Due.holds("methods were found: " + calls.size(), calls.size() > 90);
        for (String name : calls.keySet()) {
            int deep = deep(name, calls, new ArrayList<>());
            Due.holds(name + " goes " + deep + " deep", deep <= MOST_DEEP);
        }
    }

    /** How many methods stand open at once at the most, by their names; one that calls itself is told. */
    private static int deep(String name, Map<String, Set<String>> calls, List<String> open) {
        if (!calls.containsKey(name)) {
            return 0;
        }
        if (open.contains(name) || open.size() > MOST_DEEP) {
            Due.fail("too deep: " + open + " " + name);
            return 1;
        }
        open.add(name);
        int most = 0;
        for (String called : calls.get(name)) {
            most = Math.max(most, deep(called, calls, open));
        }
        open.remove(open.size() - 1);
        return most + 1;
    }
}
