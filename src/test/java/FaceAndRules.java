import java.lang.reflect.Constructor;
import java.lang.reflect.Field;
import java.lang.reflect.Method;
import java.lang.reflect.Modifier;
import java.nio.file.Files;
import java.nio.file.Path;
import java.util.ArrayDeque;
import java.util.Arrays;
import java.util.Deque;
import java.util.IdentityHashMap;
import java.util.List;
import java.util.Map;
import java.util.Set;
import java.util.TreeMap;
import java.util.TreeSet;
import java.util.regex.Matcher;
import java.util.regex.Pattern;

/** The face is the document's, the file keeps to what can be seen of LANGUAGE.md, and an object is small. */
public final class FaceAndRules {
    private static final String SOURCE = "src/main/java/BestWords.java";
    private static final String[] FACE = {"int start()", "int type(int)", "int rub()", "int types(int,int)", "int clear()",
        "int adds(int,int)", "int of(int,int)", "int letter(int,int)", "int use(int)", "int score(int,int)", "int drop(int)",
        "int rank(int)", "int slip(int)", "int fades()", "int draw(int,int)", "int undo()", "int best(int)", "int near(int)",
        "int top()", "int under()", "int close()", "int ahead()", "int common()", "int find()", "int keys(int)", "int saved()",
        "int twins(int)", "int alike(int,int)", "int write(int)", "int erase()", "int runs()", "int told(int)", "long digest()"};
    private static final List<String> FORBIDDEN = List.of("throw", "throws", "try", "catch", "finally", "synchronized", "assert",
        "import", "package", "instanceof", "protected", "native", "volatile", "transient", "goto", "Object", "System", "Thread");
    // of rule 4 what the class uses, and what is near to it
    private static final Set<String> LIBRARY = Set.of("max", "min", "abs", "numberOfLeadingZeros", "numberOfTrailingZeros",
        "bitCount", "length", "charAt");
    private static final Pattern METHOD = Pattern.compile("(?m)^ +(?:(?:public|private|static|final) )*(?:[\\w\\[\\]]+ )?(\\w+)\\([^()]*\\) (?=\\{)");
    private static final Pattern CALL = Pattern.compile("(\\w+)\\(");
    private static final Pattern STEP = Pattern.compile("(\\w+)(?:\\+\\+|--)");
    private static final Set<String> NO_CALLS = Set.of("if", "for", "while", "switch", "return");
    private static final int DEEPEST = 8;
    private static int wrong = 0;

    private static void check(boolean right, String what) {
        if (!right) {
            wrong++;
            System.out.println(what);
        }
    }

    private static String signature(Method m) {
        StringBuilder s = new StringBuilder(m.getReturnType() + " " + m.getName() + "(");
        Class<?>[] types = m.getParameterTypes();
        for (int i = 0; i < types.length; i++) s.append(i > 0 ? "," : "").append(types[i].getName());
        return s.append(")").toString();
    }

    private static void checkFace() throws Exception {
        Set<String> due = new TreeSet<>(Arrays.asList(FACE));
        Set<String> there = new TreeSet<>();
        Set<String> names = new TreeSet<>();
        for (String f : FACE) names.add(f.substring(f.indexOf(' ') + 1, f.indexOf('(')));
        for (Method m : BestWords.class.getDeclaredMethods()) {
            if (Modifier.isPublic(m.getModifiers())) there.add(signature(m));
            else check(Modifier.isPrivate(m.getModifiers()) && !names.contains(m.getName()), "method " + m);
        }
        check(due.equals(there), "the face is " + there);
        check(Modifier.isFinal(BestWords.class.getModifiers()), "the class is not final");
        Constructor<?>[] makers = BestWords.class.getDeclaredConstructors();
        check(makers.length == 1 && makers[0].getParameterCount() == 0 && Modifier.isPublic(makers[0].getModifiers()), "the constructor");
        Set<String> constants = new TreeSet<>();
        for (Field f : BestWords.class.getDeclaredFields()) {
            if (Modifier.isPublic(f.getModifiers())) constants.add(f.getName() + "=" + f.get(null));
            else check(Modifier.isPrivate(f.getModifiers()), "field " + f);
        }
        check(constants.equals(Set.of("NONE=-1", "BAD=-2", "NO=-3", "FULL=-4")), "the constants are " + constants);
    }

    private static void checkClasses() {
        Class<?>[] inside = BestWords.class.getDeclaredClasses();
        check(inside.length <= 11, "too many classes");
        checkSizes(BestWords.class);
        for (Class<?> c : inside) {
            check(Modifier.isStatic(c.getModifiers()) && !Modifier.isPublic(c.getModifiers()), "class " + c);
            checkSizes(c);
        }
    }

    private static void checkSizes(Class<?> c) {
        int fields = 0;
        for (Field f : c.getDeclaredFields()) {
            if (!Modifier.isStatic(f.getModifiers())) fields++;
            else check(Modifier.isFinal(f.getModifiers()), "static field " + f);
        }
        check(fields <= 20, "too many fields in " + c);
        for (Method m : c.getDeclaredMethods()) check(m.getParameterCount() <= 7, "too many parameters: " + m);
    }

    private static void checkSource() throws Exception {
        String source = Files.readString(Path.of(SOURCE));
        for (char c : source.toCharArray()) check(c < 128, "sign " + (int) c);
        String code = source.replaceAll("(?s)/\\*.*?\\*/", "").replaceAll("//[^\n]*", "").replaceAll("\"[^\"\n]*\"", "\"\"");
        for (String word : code.split("[^A-Za-z0-9_]+")) check(!FORBIDDEN.contains(word), "forbidden: " + word);
        check(!code.contains("->") && !code.contains("::"), "a lambda or method reference");
        checkLengths(source);
        checkLoops(code);
        checkCalls(code);
    }

    /** From the opening sign at this place to the one that closes it, both left out. */
    private static String within(String code, int from) {
        char open = code.charAt(from);
        char close = open == '(' ? ')' : '}';
        int depth = 0;
        for (int i = from; i < code.length(); i++) {
            if (code.charAt(i) == open) depth++;
            if (code.charAt(i) == close && --depth == 0) return code.substring(from + 1, i);
        }
        return code.substring(from + 1);
    }

    /** Something that is one more, or one less, each time stands in the loop's condition. */
    private static boolean steps(String change, String condition) {
        Matcher step = STEP.matcher(change);
        while (step.find()) if (condition.matches("(?s).*\\b" + step.group(1) + "\\b.*")) return true;
        return false;
    }

    // rule 9: the end is seen from the loop's own lines, so a counter that another method moves is none
    private static void checkLoops(String code) {
        Matcher loop = Pattern.compile("\\b(for|while|do)\\b").matcher(code);
        while (loop.find()) {
            int head = code.indexOf('(', loop.start());
            String condition = within(code, head);
            int body = code.indexOf('{', head + condition.length());
            String[] parts = condition.split(";");
            boolean ends = loop.group().equals("for") ? parts.length == 3 && steps(parts[2], parts[1])
                : loop.group().equals("while") && steps(within(code, body), condition);
            check(ends, "a loop whose end is not seen from its own lines: " + loop.group() + " (" + condition + ")");
        }
    }

    // rules 8 and 11: no recursion is used, and calls go eight deep at most
    private static void checkCalls(String code) {
        Map<String, Set<String>> called = new TreeMap<>();
        Matcher method = METHOD.matcher(code);
        while (method.find()) {
            if (NO_CALLS.contains(method.group(1))) continue;
            Set<String> names = called.computeIfAbsent(method.group(1), name -> new TreeSet<>());
            Matcher call = CALL.matcher(within(code, method.end()));
            while (call.find()) if (!NO_CALLS.contains(call.group(1))) names.add(call.group(1));
        }
        for (String f : FACE) {
            String name = f.substring(f.indexOf(' ') + 1, f.indexOf('('));
            check(called.containsKey(name), "no method is read: " + name);
            int deep = depth(name, called, new ArrayDeque<>());
            check(deep <= DEEPEST, name + "() goes " + deep + " deep");
        }
    }

    private static int depth(String name, Map<String, Set<String>> called, Deque<String> open) {
        if (!called.containsKey(name)) {
            check(LIBRARY.contains(name), "a call of the library: " + name);
            return 1;
        }
        check(!open.contains(name), "a recursion: " + open + " " + name);
        if (open.contains(name)) return 1;
        open.addLast(name);
        int deepest = 0;
        for (String next : called.get(name)) deepest = Math.max(deepest, depth(next, called, open));
        open.removeLast();
        return deepest + 1;
    }

    private static void checkLengths(String source) {
        String[] lines = source.split("\n");
        int begun = 0;
        for (int i = 0; i < lines.length; i++) {
            check(lines[i].length() <= 120, "a long line: " + (i + 1));
            if (lines[i].matches(" +[a-z].*\\) \\{") && !lines[i].matches(" +(if|for|while|switch|do)\\b.*")) begun = i;
            if (lines[i].matches("    (    )?\\}")) check(i - begun < 60, "a long method at line " + (begun + 1));
        }
    }

    private static long objects = 0, elements = 0;

    private static void count(Object o, Map<Object, Boolean> seen) throws Exception {
        if (o == null || o instanceof String || seen.put(o, true) != null) return;
        objects++;
        if (o.getClass().isArray()) {
            elements += java.lang.reflect.Array.getLength(o);
            if (o instanceof Object[] all) for (Object each : all) count(each, seen);
            return;
        }
        for (Field f : o.getClass().getDeclaredFields()) {
            if (Modifier.isStatic(f.getModifiers())) continue;
            elements++;
            f.setAccessible(true);
            if (!f.getType().isPrimitive()) count(f.get(o), seen);
        }
    }

    // a run may make a new object in each of its 512 calls, and none is ever given back
    private static void checkRoom() throws Exception {
        BestWords x = new BestWords();
        count(x, new IdentityHashMap<>());
        check(objects * 512 <= 300000, "an object is made of " + objects + " objects");
        check(elements * 512 <= 3600000, "an object is made of " + elements + " elements");
    }

    public static void main(String[] args) throws Exception {
        checkFace();
        checkClasses();
        checkSource();
        checkRoom();
        System.out.println(wrong == 0 ? "the face and the rules are kept" : wrong + " rules are not kept");
        if (wrong != 0) System.exit(1);
    }
}
