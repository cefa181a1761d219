import java.util.ArrayList;
import java.util.Comparator;
import java.util.HashSet;
import java.util.List;
import java.util.Random;
import java.util.Set;
import java.util.regex.Matcher;
import java.util.regex.Pattern;

/**
 * Runs of up to 512 random calls, each answer compared with that of a slow model which is written
 * from the document's words alone: texts for spellings, all edits tried for CLOSE, all beginnings for keys().
 */
public final class ModelRuns {
    static final class Phrase {
        int number, score, meaning, uses, last = -1;
        String word;

        Phrase copy() {
            Phrase p = new Phrase();
            p.number = number;
            p.score = score;
            p.meaning = meaning;
            p.uses = uses;
            p.last = last;
            p.word = word;
            return p;
        }
    }

    static final class State {
        List<Phrase> phrases = new ArrayList<>();
        int given, kind, slip = 100;

        State copy() {
            State s = new State();
            for (Phrase p : phrases) s.phrases.add(p.copy());
            s.given = given;
            s.kind = kind;
            s.slip = slip;
            return s;
        }
    }

    static final class Model {
        State s;
        List<State> past;
        int clock, bad, no, full;
        String typed, text;

        Model() { begin(); }

        void begin() {
            s = new State();
            past = new ArrayList<>();
            clock = bad = no = full = 0;
            typed = "";
            text = "";
        }

        int bad() { bad++; return -2; }
        int no() { no++; return -3; }
        int full() { full++; return -4; }
        void mark() { past.add(s.copy()); if (past.size() > 12) past.remove(0); }

        Phrase at(int number) {
            for (Phrase p : s.phrases) if (p.number == number) return p;
            return null;
        }

        Phrase spelled(String word) {
            for (Phrase p : s.phrases) if (p.word.equals(word)) return p;
            return null;
        }

        boolean noRoom() { return s.phrases.size() == 40 || s.given == 200; }

        int put(String word, int score, int meaning) {
            Phrase p = new Phrase();
            p.number = s.given++;
            p.word = word;
            p.score = score;
            p.meaning = meaning;
            s.phrases.add(p);
            return p.number;
        }

        int hold(int v) { return v < 0 ? 0 : v > 1000 ? 1000 : v; }

        int ranked(int kind, Phrase p, int t) {
            if (kind == 0) return hold(p.score);
            if (kind == 1) return hold(ranked(0, p, t) + 10);
            if (kind == 2) return p.last != -1 && t - p.last <= 3 ? hold(ranked(1, p, t) + 20) : ranked(1, p, t);
            if (kind == 3) return hold(ranked(1, p, t) + (p.uses > 30 ? 30 : p.uses));
            return hold(p.score + 2 * (ranked(2, p, t) - p.score));
        }

        int choose(Phrase p) {
            if (clock < 9999) clock++;
            p.score = ranked(s.kind, p, clock);
            p.uses++;
            p.last = clock;
            return p.score;
        }

        boolean isClose(Phrase p) {
            if (p.word.startsWith(typed)) return false;
            Set<String> edits = new HashSet<>();
            for (int m = 0; m <= p.word.length(); m++) {
                String b = p.word.substring(0, m);
                for (int i = 0; i <= m; i++) {
                    for (char c = 'a'; c <= 'h'; c++) {
                        edits.add(b.substring(0, i) + c + b.substring(i));
                        if (i < m) edits.add(b.substring(0, i) + c + b.substring(i + 1));
                    }
                    if (i < m) edits.add(b.substring(0, i) + b.substring(i + 1));
                }
            }
            return edits.contains(typed);
        }

        List<Phrase> list(String typed, boolean near) {
            List<Phrase> all = new ArrayList<>();
            List<Integer> ranks = new ArrayList<>();
            for (Phrase p : s.phrases) {
                if (p.word.startsWith(typed)) {
                    all.add(p);
                    ranks.add(p.score);
                } else if (near && isClose(p)) {
                    all.add(p);
                    ranks.add(p.score - s.slip);
                }
            }
            List<Phrase> sorted = new ArrayList<>(all);
            sorted.sort(Comparator.comparingInt((Phrase p) -> -ranks.get(all.indexOf(p))).thenComparingInt(p -> p.number));
            List<Phrase> told = new ArrayList<>();
            for (Phrase p : sorted) {
                boolean alike = false;
                for (Phrase q : told) alike |= p.meaning != 0 && q.meaning == p.meaning;
                if (!alike) told.add(p);
            }
            return told;
        }

        int listed(int k, boolean near) {
            if (k < -1) { bad++; return -10; }
            List<Phrase> told = list(typed, near);
            return k == -1 ? told.size() : k >= told.size() ? -5 : told.get(k).number;
        }

        int keys(Phrase p) {
            for (int n = 0; n <= p.word.length(); n++) if (list(p.word.substring(0, n), false).get(0) == p) return n;
            return -1;
        }

        static int same(String a, String b) {
            int n = 0;
            while (n < a.length() && n < b.length() && a.charAt(n) == b.charAt(n)) n++;
            return n;
        }

        int draw(int seed, int n) {
            if (seed < 0 || seed > 999999 || n < 1 || n > 9) return bad();
            mark();
            long[] x = {seed};
            int came = 0;
            for (int i = 0; i < n; i++) {
                int m = (int) (drawn(x) / 65536 % 5) + 1;
                String w = "";
                for (int k = 0; k < m; k++) w += (char) ('a' + drawn(x) / 65536 % 8);
                drawn(x);
                if (spelled(w) == null && !noRoom()) {
                    put(w, (int) (x[0] / 65536 % 1001), (int) (x[0] / 1024 % 10));
                    came++;
                }
            }
            return came;
        }

        static long drawn(long[] x) { return x[0] = (x[0] * 1103515245L + 12345L) & 0x7fffffffL; }

        static final Pattern TOKEN = Pattern.compile("[a-z]+|[0-9]+|[^ ]", Pattern.DOTALL);

        // answers the fault, or -1; the orders' tokens come into the list
        int parse(List<String[]> orders) {
            Matcher m = TOKEN.matcher(text);
            List<String> order = new ArrayList<>();
            while (m.find()) {
                order.add(m.group());
                if (!fits(order)) return m.start();
                if (m.group().equals(";")) {
                    orders.add(order.toArray(new String[0]));
                    order.clear();
                }
            }
            return orders.isEmpty() || !order.isEmpty() ? text.length() : -1;
        }

        static boolean fits(List<String> order) {
            String shape = switch (order.get(0)) {
                case "add" -> "wsm;";
                case "use", "drop" -> "w;";
                case "score" -> "ws;";
                case "rank" -> "k;";
                case "slip" -> "s;";
                case "fade" -> ";";
                default -> null;
            };
            if (shape == null) return false;
            if (order.size() == 1) return true;
            String last = order.get(order.size() - 1);
            switch (shape.charAt(order.size() - 2)) {
                case 'w': return last.matches("[a-h]{1,8}");
                case 's': return last.matches("[0-9]{1,4}") && Integer.parseInt(last) <= 1000;
                case 'm': return last.matches("[0-9]{1,4}") && Integer.parseInt(last) <= 9;
                case 'k': return last.matches("[0-9]{1,4}") && Integer.parseInt(last) <= 4;
                default: return last.equals(";");
            }
        }

        boolean order(String[] o) {
            Phrase p = o.length > 2 ? spelled(o[1]) : null;
            switch (o[0]) {
                case "add":
                    if (p != null || noRoom()) return false;
                    put(o[1], Integer.parseInt(o[2]), Integer.parseInt(o[3]));
                    return true;
                case "rank": s.kind = Integer.parseInt(o[1]); return true;
                case "slip": s.slip = Integer.parseInt(o[1]); return true;
                case "fade": for (Phrase q : s.phrases) q.score /= 2; return true;
                default:
            }
            if (p == null) return false;
            if (o[0].equals("use")) choose(p);
            else if (o[0].equals("score")) p.score = Integer.parseInt(o[2]);
            else s.phrases.remove(p);
            return true;
        }

        int runs() {
            List<String[]> orders = new ArrayList<>();
            int fault = parse(orders);
            if (fault >= 0) return -10 - fault;
            mark();
            int done = 0;
            for (String[] o : orders) if (order(o)) done++;
            return done;
        }

        int told(int what) {
            int[] all = {s.phrases.size(), s.given, clock, s.kind, s.slip, typed.length(), past.size(), text.length(), bad, no, full};
            return what < 0 || what > 10 ? bad() : all[what];
        }

        long digest() {
            List<Integer> v = new ArrayList<>();
            for (int i = 0; i <= 10; i++) v.add(told(i));
            for (Phrase p : s.phrases) {
                v.add(p.number);
                v.add(p.score);
                v.add(p.meaning);
                v.add(p.word.length());
                v.add(p.uses);
                v.add(p.last);
                for (char c : p.word.toCharArray()) v.add(c - 'a');
            }
            for (char c : typed.toCharArray()) v.add(c - 'a');
            long h = 2003;
            for (int i : v) h = 31 * h + i;
            return h;
        }

        int ahead() {
            Phrase first = null;
            for (Phrase p : s.phrases)
                if (p.word.startsWith(typed) && p.word.length() > typed.length() && (first == null || p.score > first.score)) first = p;
            return first == null ? -1 : first.word.charAt(typed.length()) - 'a';
        }

        int common() {
            String all = null;
            for (Phrase p : s.phrases)
                if (p.word.startsWith(typed)) all = all == null ? p.word : p.word.substring(0, same(all, p.word));
            return all == null ? -1 : all.length() - typed.length();
        }

        int adds(int score, int meaning) {
            if (score < 0 || score > 1000 || meaning < 0 || meaning > 9) return bad();
            if (typed.isEmpty() || typed.length() > 8 || spelled(typed) != null) return no();
            if (noRoom()) return full();
            mark();
            int n = put(typed, score, meaning);
            typed = "";
            return n;
        }

        long call(int which, int a, int b) {
            Phrase p = at(a);
            switch (which) {
                case 0: begin(); return 1;
                case 1:
                    if (a < 0 || a > 7) return bad();
                    if (typed.length() == 12) return full();
                    typed += (char) ('a' + a);
                    return typed.length();
                case 2:
                    if (typed.isEmpty()) return no();
                    typed = typed.substring(0, typed.length() - 1);
                    return typed.length();
                case 3:
                    if (p == null || b < 0 || b > p.word.length()) return bad();
                    typed = p.word.substring(0, b);
                    return b;
                case 4: { int n = typed.length(); typed = ""; return n; }
                case 5: return adds(a, b);
                case 6:
                    if (p == null || b < 0 || b > 4) return bad();
                    return new int[] {p.score, p.meaning, p.word.length(), p.uses, p.last}[b];
                case 7:
                    if (p == null || b < 0) return bad();
                    return b >= p.word.length() ? -1 : p.word.charAt(b) - 'a';
                case 8:
                    if (p == null) return bad();
                    mark();
                    return choose(p);
                case 9: {
                    if (p == null || b < 0 || b > 1000) return bad();
                    mark();
                    int v = p.score;
                    p.score = b;
                    return v;
                }
                case 10:
                    if (p == null) return bad();
                    mark();
                    s.phrases.remove(p);
                    return p.score;
                case 11: {
                    if (a < 0 || a > 4) return bad();
                    mark();
                    int v = s.kind;
                    s.kind = a;
                    return v;
                }
                case 12: {
                    if (a < 0 || a > 1000) return bad();
                    mark();
                    int v = s.slip;
                    s.slip = a;
                    return v;
                }
                case 13:
                    mark();
                    for (Phrase q : s.phrases) q.score /= 2;
                    return s.phrases.size();
                case 14: return draw(a, b);
                case 15:
                    if (past.isEmpty()) return no();
                    s = past.remove(past.size() - 1);
                    return past.size();
                case 16: return listed(a, false);
                case 17: return listed(a, true);
                default: return ask(which, a, b, p);
            }
        }

        long ask(int which, int a, int b, Phrase p) {
            switch (which) {
                case 18: return s.phrases.stream().filter(q -> q.word.startsWith(typed)).mapToInt(q -> q.score).max().orElse(-1);
                case 19: return s.phrases.stream().filter(q -> q.word.startsWith(typed)).count();
                case 20: return s.phrases.stream().filter(this::isClose).count();
                case 21: return ahead();
                case 22: return common();
                case 23: return spelled(typed) == null ? -1 : spelled(typed).number;
                case 24: return p == null ? bad() : keys(p);
                case 25: {
                    int all = 0;
                    for (Phrase q : s.phrases) if (keys(q) >= 0) all += q.word.length() - keys(q);
                    return all;
                }
                case 26:
                    return p == null ? bad() : s.phrases.stream().filter(q -> q != p && p.meaning != 0 && q.meaning == p.meaning).count();
                case 27: return p == null || at(b) == null ? bad() : same(p.word, at(b).word);
                case 28:
                    if (a < 0 || a > 127) return bad();
                    if (text.length() == 120) return full();
                    text += (char) a;
                    return text.length();
                case 29: { int n = text.length(); text = ""; return n; }
                case 30: return runs();
                case 31: return told(a);
                default: return digest();
            }
        }
    }

    static final String[] NAMES = {"start", "type", "rub", "types", "clear", "adds", "of", "letter", "use", "score", "drop",
        "rank", "slip", "fades", "draw", "undo", "best", "near", "top", "under", "close", "ahead", "common", "find", "keys",
        "saved", "twins", "alike", "write", "erase", "runs", "told", "digest"};

    static long real(BestWords x, int which, int a, int b) {
        switch (which) {
            case 0: return x.start();
            case 1: return x.type(a);
            case 2: return x.rub();
            case 3: return x.types(a, b);
            case 4: return x.clear();
            case 5: return x.adds(a, b);
            case 6: return x.of(a, b);
            case 7: return x.letter(a, b);
            case 8: return x.use(a);
            case 9: return x.score(a, b);
            case 10: return x.drop(a);
            case 11: return x.rank(a);
            case 12: return x.slip(a);
            case 13: return x.fades();
            case 14: return x.draw(a, b);
            case 15: return x.undo();
            case 16: return x.best(a);
            case 17: return x.near(a);
            case 18: return x.top();
            case 19: return x.under();
            case 20: return x.close();
            case 21: return x.ahead();
            case 22: return x.common();
            case 23: return x.find();
            case 24: return x.keys(a);
            case 25: return x.saved();
            case 26: return x.twins(a);
            case 27: return x.alike(a, b);
            case 28: return x.write(a);
            case 29: return x.erase();
            case 30: return x.runs();
            case 31: return x.told(a);
            default: return x.digest();
        }
    }

    static final int[] ODD = {-1, -2, -3, 5, 8, 9, 10, 12, 13, 40, 120, 127, 128, 199, 200, 1000, 1001, 999999, 1000000,
        Integer.MAX_VALUE, Integer.MIN_VALUE};

    private final Random random;
    private final Model model = new Model();
    private final BestWords words = new BestWords();
    private final StringBuilder story = new StringBuilder();
    private final int letters, churn;
    private int left = 512;
    private boolean right = true;

    ModelRuns(long seed) {
        random = new Random(seed);
        letters = 1 + random.nextInt(8);
        churn = random.nextInt(3);
    }

    int below(int n) { return random.nextInt(n); }

    void step(int which, int a, int b) {
        if (left == 0 || !right) return;
        left--;
        long want = model.call(which, a, b);
        long got = real(words, which, a, b);
        story.append(NAMES[which]).append('(').append(a).append(", ").append(b).append(") = ").append(got).append('\n');
        if (got != want) {
            right = false;
            System.out.println(story + "due is " + want);
            return;
        }
        if (model.digest() != words.digest()) {
            right = false;
            System.out.println(story + "and the digest differs");
        }
    }

    int number() {
        if (!model.s.phrases.isEmpty() && below(8) != 0) return model.s.phrases.get(below(model.s.phrases.size())).number;
        return below(4) == 0 ? odd() : below(model.s.given + 2);
    }

    int odd() { return ODD[below(ODD.length)]; }

    int or(int usual) { return below(12) == 0 ? odd() : usual; }

    String word() {
        if (!model.s.phrases.isEmpty() && below(3) != 0) return model.s.phrases.get(below(model.s.phrases.size())).word;
        StringBuilder w = new StringBuilder();
        for (int n = 1 + below(below(6) == 0 ? 9 : 4); n > 0; n--) w.append((char) ('a' + below(letters)));
        return w.toString();
    }

    String figures(int most) {
        int v = below(10) == 0 ? most + below(2) : below(most + 1);
        String f = Integer.toString(v);
        while (below(6) == 0) f = "0" + f;
        return f;
    }

    String gap(int least) {
        int n = below(5) == 0 ? below(3) : least;
        return " ".repeat(below(30) == 0 ? n : Math.max(n, least));
    }

    String order() {
        String end = gap(0) + ";" + gap(0);
        switch (below(8)) {
            case 0: case 1: return "add" + gap(1) + word() + gap(below(2)) + figures(1000) + gap(1) + figures(9) + end;
            case 2: case 3: return "use" + gap(1) + word() + end;
            case 4: return "score" + gap(1) + word() + gap(below(2)) + figures(1000) + end;
            case 5: return "drop" + gap(1) + word() + end;
            case 6: return (below(2) == 0 ? "rank" + gap(0) + figures(4) : "slip" + gap(0) + figures(1000)) + end;
            default: return "fade" + end;
        }
    }

    String someText() {
        StringBuilder t = new StringBuilder(gap(0));
        for (int n = 1 + below(5); n > 0; n--) t.append(order());
        if (below(3) == 0 && t.length() > 0) {
            int at = below(t.length());
            String signs = " ;a7hizAZ0,\t:`/";
            switch (below(4)) {
                case 0: t.deleteCharAt(at); break;
                case 1: t.insert(at, signs.charAt(below(signs.length()))); break;
                case 2: t.setLength(at); break;
                default: t.setCharAt(at, signs.charAt(below(signs.length())));
            }
        }
        return t.toString();
    }

    void someTextRuns() {
        if (below(4) != 0) step(29, 0, 0);
        String t = someText();
        for (int i = 0; i < t.length(); i++) step(28, t.charAt(i), 0);
        for (int n = 1 + below(3); n > 0; n--) step(30, 0, 0);
    }

    void someTyping() {
        switch (below(4)) {
            case 0: step(3, number(), or(below(9))); break;
            case 1: step(4, 0, 0); break;
            case 2: step(2, 0, 0); break;
            default: for (int n = below(below(8) == 0 ? 14 : 4); n >= 0; n--) step(1, or(below(letters)), 0);
        }
    }

    void someChange() {
        switch (below(10)) {
            case 0: step(5, or(below(1001)), or(below(10))); break;
            case 1: case 2: case 3: step(8, number(), 0); break;
            case 4: step(9, number(), or(below(1001))); break;
            case 5: step(10, number(), 0); break;
            case 6: step(11, or(below(5)), 0); break;
            case 7: step(12, or(below(1001)), 0); break;
            case 8: step(13, 0, 0); break;
            default: step(14, or(below(1000000)), or(1 + below(9)));
        }
    }

    void someQuestion() {
        int which = 16 + below(12);
        boolean place = which <= 17;
        step(which, place ? or(below(12) - 1) : number(), number());
        if (below(4) == 0) step(6, number(), or(below(5)));
        if (below(4) == 0) step(7, number(), or(below(9)));
        if (below(8) == 0) step(31, or(below(11)), 0);
        if (below(8) == 0) step(32, 0, 0);
    }

    boolean isRight() {
        while (left > 0 && right) {
            int kind = below(20);
            if (kind < 5) someTyping();
            else if (kind < 10) someChange();
            else if (kind < 16) someQuestion();
            else if (kind == 16) someTextRuns();
            else if (kind == 17) for (int n = below(churn == 0 ? 14 : 2); n > 0; n--) step(15, 0, 0);
            else if (kind == 18 && below(40) == 0) step(0, 0, 0);
            if (churn == 2 && below(3) == 0) churn();
        }
        return right;
    }

    // many come and go, so that phrases and numbers run out
    void churn() {
        step(14, below(1000000), 9);
        while (left > 0 && right && model.s.phrases.size() > 31 && below(5) != 0) step(10, number(), 0);
    }

    public static void main(String[] args) {
        int runs = args.length > 0 ? Integer.parseInt(args[0]) : 1500;
        for (int run = 0; run < runs; run++) {
            if (!new ModelRuns(run).isRight()) {
                System.out.println("run " + run + " is not as due");
                System.exit(1);
            }
        }
        System.out.println(runs + " runs are as due");
    }
}
