import java.lang.reflect.Constructor;
import java.lang.reflect.Field;
import java.lang.reflect.Method;
import java.lang.reflect.Modifier;
import java.nio.file.Files;
import java.nio.file.Path;
import java.util.Arrays;
import java.util.IdentityHashMap;
import java.util.List;
import java.util.Map;
import java.util.Set;
import java.util.TreeSet;

/** The face is the document's, the file keeps to what can be seen of LANGUAGE.md, and an object is small. */
public final class FaceAndRules {
    private static final String SOURCE = "src/main/java/BestWords.java";
    private static final String[] FACE = {"int start()", "int type(int)", "int rub()", "int types(int,int)", "int clear()",
        "int adds(int,int)", "int of(int,int)", "int letter(int,int)", "int use(int)", "int score(int,int)", "int drop(int)",
        "int rank(int)", "int slip(int)", "int fades()", "int draw(int,int)", "int undo()", "int best(int)", "int near(int)",
        "int top()", "int under()", "int close()", "int ahead()", "int common()", "int find()", "int keys(int)", "int saved()",
        "int twins(int)", "int alike(int,int)", "int write(int)", "int erase()", "int runs()", "int told(int)", "long digest()"};
    private static final List<String> FORBIDDEN = List.of("throw", "throws", "try", "catch", "finally", "synchronized", "assert",
        "import", "package", "instanceof", "protected", "native", "volatile", "transient", "goto", "Object", "System", "Thread");
    private static int wrong = 0;

    private static void check(boolean right, String what) {
        if (!right) {
            wrong++;
            System.out.println(what);
        }
    }

    private static String signature(Method m) {
        StringBuilder s = new StringBuilder(m.getReturnType() + " " + m.getName() + "(");
        Class<?>[] types = m.getParameterTypes();
        for (int i = 0; i < types.length; i++) s.append(i > 0 ? "," : "").append(types[i].getName());
        return s.append(")").toString();
    }

    private static void checkFace() throws Exception {
        Set<String> due = new TreeSet<>(Arrays.asList(FACE));
        Set<String> there = new TreeSet<>();
        Set<String> names = new TreeSet<>();
        for (String f : FACE) names.add(f.substring(f.indexOf(' ') + 1, f.indexOf('(')));
        for (Method m : BestWords.class.getDeclaredMethods()) {
            if (Modifier.isPublic(m.getModifiers())) there.add(signature(m));
            else check(Modifier.isPrivate(m.getModifiers()) && !names.contains(m.getName()), "method " + m);
        }
        check(due.equals(there), "the face is " + there);
        check(Modifier.isFinal(BestWords.class.getModifiers()), "the class is not final");
        Constructor<?>[] makers = BestWords.class.getDeclaredConstructors();
        check(makers.length == 1 && makers[0].getParameterCount() == 0 && Modifier.isPublic(makers[0].getModifiers()), "the constructor");
        Set<String> constants = new TreeSet<>();
        for (Field f : BestWords.class.getDeclaredFields()) {
            if (Modifier.isPublic(f.getModifiers())) constants.add(f.getName() + "=" + f.get(null));
            else check(Modifier.isPrivate(f.getModifiers()), "field " + f);
        }
        check(constants.equals(Set.of("NONE=-1", "BAD=-2", "NO=-3", "FULL=-4")), "the constants are " + constants);
    }

    private static void checkClasses() {
        Class<?>[] inside = BestWords.class.getDeclaredClasses();
        check(inside.length <= 11, "too many classes");
        for (Class<?> c : inside) {
            check(Modifier.isStatic(c.getModifiers()) && !Modifier.isPublic(c.getModifiers()), "class " + c);
            int fields = 0;
            for (Field f : c.getDeclaredFields()) {
                if (!Modifier.isStatic(f.getModifiers())) fields++;
                else check(Modifier.isFinal(f.getModifiers()), "static field " + f);
            }
            check(fields <= 20, "too many fields in " + c);
            for (Method m : c.getDeclaredMethods()) check(m.getParameterCount() <= 7, "too many parameters: " + m);
        }
    }

    private static void checkSource() throws Exception {
        String source = Files.readString(Path.of(SOURCE));
        for (char c : source.toCharArray()) check(c < 128, "sign " + (int) c);
        String code = source.replaceAll("(?s)/\\*.*?\\*/", "").replaceAll("//[^\n]*", "").replaceAll("\"[^\"\n]*\"", "\"\"");
        for (String word : code.split("[^A-Za-z0-9_]+")) check(!FORBIDDEN.contains(word), "forbidden: " + word);
        check(!code.contains("->") && !code.contains("::"), "a lambda or method reference");
        checkLengths(source);
    }

    private static void checkLengths(String source) {
        String[] lines = source.split("\n");
        int begun = 0;
        for (int i = 0; i < lines.length; i++) {
            check(lines[i].length() <= 120, "a long line: " + (i + 1));
            if (lines[i].matches(" +[a-z].*\\) \\{") && !lines[i].matches(" +(if|for|while|switch|do)\\b.*")) begun = i;
            if (lines[i].matches("    (    )?\\}")) check(i - begun < 60, "a long method at line " + (begun + 1));
        }
    }

    private static long objects = 0, elements = 0;

    private static void count(Object o, Map<Object, Boolean> seen) throws Exception {
        if (o == null || o instanceof String || seen.put(o, true) != null) return;
        objects++;
        if (o.getClass().isArray()) {
            elements += java.lang.reflect.Array.getLength(o);
            if (o instanceof Object[] all) for (Object each : all) count(each, seen);
            return;
        }
        for (Field f : o.getClass().getDeclaredFields()) {
            if (Modifier.isStatic(f.getModifiers())) continue;
            elements++;
            f.setAccessible(true);
            if (!f.getType().isPrimitive()) count(f.get(o), seen);
        }
    }

    // a run may make a new object in each of its 512 calls, and none is ever given back
    private static void checkRoom() throws Exception {
        BestWords x = new BestWords();
        count(x, new IdentityHashMap<>());
        check(objects * 512 <= 300000, "an object is made of " + objects + " objects");
        check(elements * 512 <= 3600000, "an object is made of " + elements + " elements");
    }

    public static void main(String[] args) throws Exception {
        checkFace();
        checkClasses();
        checkSource();
        checkRoom();
        System.out.println(wrong == 0 ? "the face and the rules are kept" : wrong + " rules are not kept");
        if (wrong != 0) System.exit(1);
    }
}
