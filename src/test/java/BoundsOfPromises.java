import java.math.BigInteger;
import java.util.HashSet;
import java.util.Set;
import java.util.function.ToLongFunction;

/** Each sentence of the promises that names a bound, and what each call leaves as it was, refused or not. */
public final class BoundsOfPromises extends Trial {
    private interface OfOne {
        long ask(BestWords x, int p);
    }

    /** The call is BAD for each number that no phrase has, with nothing changed. */
    private static void badIfNotThere(String call, OfOne asked) {
        for (int p : NOT_THERE) bad(call + " of " + p, x -> asked.ask(x, p));
        leaves(call + " with no PHRASES", Trial::empty, x -> asked.ask(x, 0), BAD, AS_BAD);
        leaves(call + " of the 41st", () -> pairs(40, "aa"), x -> asked.ask(x, 40), BAD, AS_BAD);
    }

    /** A question: its answer, nothing counted, nothing changed. */
    private static void asks(String call, ToLongFunction<BestWords> asked, long answer) {
        leaves(call, Trial::rich, asked, answer, UNCOUNTED);
    }

    // ---- 1, 2

    private static void asAtFirst(String when, BestWords x) {
        int[] first = {0, 0, 0, 0, 100, 0, 0, 0, 0, 0, 0};
        long h = 2003;
        for (int what = 0; what < first.length; what++) {
            due(when + ", told(" + what + ")", x.told(what), first[what]);
            h = 31 * h + first[what];
        }
        due(when + ", digest", x.digest(), h);
        due(when + ", best", x.best(NONE), 0);
        due(when + ", saved", x.saved(), 0);
        due(when + ", runs", x.runs(), -10);
        due(when + ", undo", x.undo(), NO);
        due(when + ", rub", x.rub(), NO);
        due(when + ", of", x.of(0, 0), BAD);
        due(when + ", the first NUMBER", add(x, "a", 1, 0), 0);
        due(when + ", use by PLAIN", x.use(0), 1);
        due(when + ", LAST", x.of(0, 4), 1);
    }

    private static void newObject() {
        asAtFirst("a new one", new BestWords());
        BestWords first = rich();
        first.told(11);
        asAtFirst("another one begun", new BestWords());
    }

    private static void start() {
        BestWords x = new BestWords();
        due("start of a new one", x.start(), 1);
        asAtFirst("a new one", x);
        x = rich();
        x.told(11);
        x.undo();
        type(x, "abcdefghabcd");
        x.type(0);
        x.adds(0, 0);
        x.slip(0);
        due("start", x.start(), 1);
        asAtFirst("one that was rich", x);
        x = rich();
        x.start();
        sameCompletions("one that was rich", x, new BestWords());
        x = rich();
        x.start();
        BestWords y = new BestWords();
        add(x, "ab", 5, 3);
        add(y, "ab", 5, 3);
        sameCompletions("one that was rich, and has one", x, y, 0);
        x = written(given(200, "aaaaaaaaaaaa"), "x".repeat(120));
        due("start", x.start(), 1);
        asAtFirst("one that had all its NUMBERS", x);
        x = pairs(40, "aa");
        due("start", x.start(), 1);
        due("start again", x.start(), 1);
        asAtFirst("one that was full", x);
        x.start();
        due("room for all again", addAll(x), 40);
    }

    private static int addAll(BestWords x) {
        for (int i = 0; i < 41; i++) add(x, "" + (char) ('a' + i / 8) + (char) ('a' + i % 8), 1, 0);
        return x.told(0);
    }

    // ---- 3 to 6: typing

    private static void type() {
        for (int letter = 0; letter <= 7; letter++) {
            BestWords x = rich();
            due("type(" + letter + ")", x.type(letter), 3);
        }
        for (int letter : new int[] {-1, -2, 8, 9, 15, 16, 97, LEAST, MOST}) bad("type(" + letter + ")", x -> x.type(letter));
        due("the 12th", richTyped("abcdefghabc").type(7), 12);
        leaves("the 13th", () -> richTyped("abcdefghabcd"), x -> x.type(0), FULL, AS_FULL);
        leaves("the 13th", () -> richTyped("hhhhhhhhhhhh"), x -> x.type(7), FULL, AS_FULL);
    }

    private static void rub() {
        BestWords x = richTyped("abcdefghabcd");
        for (int n = 11; n >= 0; n--) due("rub", x.rub(), n);
        due("rub of none", x.rub(), NO);
        leaves("rub of none", () -> richTyped(""), y -> y.rub(), NO, AS_NO);
        leaves("rub of none in a new one", Trial::empty, y -> y.rub(), NO, AS_NO);
        x = richTyped("abcd");
        x.rub();
        due("the last is gone, the others stay", x.find(), 1);
        due("one of another kind in its place", x.type(3), 4);
        due("and it is abcd", x.find(), 3);
    }

    private static void types() {
        BestWords x = richTyped("hhhhhhhhhhhh");
        due("types(4, 8)", x.types(4, 8), 8);
        due("all of it", x.find(), 4);
        due("types(4, 4)", x.types(4, 4), 4);
        due("the first four", x.find(), 3);
        due("types(4, 0)", x.types(4, 0), 0);
        due("none of it", x.told(5), 0);
        due("types(5, 1)", x.types(5, 1), 1);
        due("all of one", x.find(), 5);
        int[][] wrong = {{4, 9}, {4, 12}, {4, -1}, {4, LEAST}, {4, MOST}, {5, 2}, {5, 8}, {0, 3}, {3, 5}, {4, 16}, {4, 17}};
        for (int[] w : wrong) bad("types(" + w[0] + ", " + w[1] + ")", y -> y.types(w[0], w[1]));
        badIfNotThere("types", (y, p) -> y.types(p, 0));
    }

    private static void clear() {
        due("of none", richTyped("").clear(), 0);
        due("of one", richTyped("a").clear(), 1);
        BestWords x = richTyped("abcdefghabcd");
        due("of twelve", x.clear(), 12);
        due("it is empty", x.told(5), 0);
        due("all BEGIN so", x.under(), 5);
        leaves("of none, nothing counts", () -> richTyped(""), y -> y.clear(), 0, UNCOUNTED);
    }

    // ---- 7 to 9

    private static void adds() {
        int[][] right = {{0, 0}, {1000, 9}, {0, 9}, {1000, 0}};
        for (int[] r : right) {
            BestWords x = richTyped("c");
            due("adds(" + r[0] + ", " + r[1] + ")", x.adds(r[0], r[1]), 6);
            due("SCORE", x.of(6, 0), r[0]);
            due("MEANING", x.of(6, 1), r[1]);
            due("TYPED is empty then", x.told(5), 0);
            marks("adds", () -> richTyped("c"), y -> y.adds(r[0], r[1]), 6);
        }
        int[][] wrong = {{-1, 0}, {1001, 0}, {0, -1}, {0, 10}, {LEAST, 0}, {MOST, 0}, {0, LEAST}, {0, MOST}};
        for (int[] w : wrong)
            leaves("adds(" + w[0] + ", " + w[1] + ")", () -> richTyped("c"), x -> x.adds(w[0], w[1]), BAD, AS_BAD);
    }

    private static void addsNo() {
        for (String typed : new String[] {"", "abcdefgha", "abcdefghab", "abcdefghabcd", "ab", "b", "abcdefgh"})
            leaves("adds of '" + typed + "'", () -> richTyped(typed), x -> x.adds(5, 5), NO, AS_NO);
        leaves("adds of none in a new one", Trial::empty, x -> x.adds(5, 5), NO, AS_NO);
        due("of one", richTyped("c").adds(5, 5), 6);
        due("of eight", richTyped("abcdefga").adds(5, 5), 6);
        due("of one that is gone", richTyped("h").adds(5, 5), 6);
        due("of a beginning of another", richTyped("a").adds(5, 5), 6);
    }

    private static void addsFull() {
        due("the 40th", pairs(39, "hh").adds(1, 1), 39);
        leaves("the 41st", () -> pairs(40, "hh"), x -> x.adds(1, 1), FULL, AS_FULL);
        due("the last NUMBER", given(199, "hh").adds(1, 1), 199);
        leaves("NUMBERS at an end", () -> given(200, "hh"), x -> x.adds(1, 1), FULL, AS_FULL);
    }

    private static void of() {
        int[][] v = {{100, 3, 2, 0, NONE}, {120, 3, 3, 1, 1}, {}, {90, 0, 4, 0, NONE}, {1000, 9, 8, 1, 2}, {0, 0, 1, 0, NONE}};
        for (int p : RICH_NUMBERS) for (int what = 0; what <= 4; what++) {
            int number = p;
            int which = what;
            asks("of(" + p + ", " + what + ")", x -> x.of(number, which), v[p][what]);
        }
        for (int what : new int[] {-1, 5, 6, LEAST, MOST}) bad("of(0, " + what + ")", x -> x.of(0, what));
        badIfNotThere("of", (x, p) -> x.of(p, 0));
        badIfNotThere("of", (x, p) -> x.of(p, 4));
        BestWords x = rich();
        x.drop(0);
        due("not there any more", x.of(0, 0), BAD);
        due("the next one is", x.of(1, 0), 120);
        x.undo();
        due("there again", x.of(0, 0), 100);
        x.drop(5);
        due("the last one, not there any more", x.of(5, 0), BAD);
    }

    private static void letter() {
        for (int k = 0; k <= 7; k++) {
            int at = k;
            asks("letter(4, " + k + ")", x -> x.letter(4, at), k);
        }
        for (int k : new int[] {8, 9, 12, 15, 16, 31, 32, 64, 1 << 30, MOST}) asks("letter(4, " + k + ")", x -> x.letter(4, k), NONE);
        asks("letter(5, 0)", x -> x.letter(5, 0), 1);
        asks("letter(5, 1)", x -> x.letter(5, 1), NONE);
        for (int k : new int[] {-1, -2, -16, LEAST}) bad("letter(4, " + k + ")", x -> x.letter(4, k));
        badIfNotThere("letter", (x, p) -> x.letter(p, 0));
        badIfNotThere("letter", (x, p) -> x.letter(p, MOST));
    }

    // ---- 10 to 15: what changes phrases

    private static void use() {
        marks("use(0)", Trial::rich, x -> x.use(0), 110);
        marks("use(1)", Trial::rich, x -> x.use(1), 131);
        marks("use(4)", Trial::rich, x -> x.use(4), 1000);
        badIfNotThere("use", (x, p) -> x.use(p));
        BestWords x = rich();
        x.use(5);
        due("THE CLOCK is 1 more", x.told(2), 3);
        due("LAST", x.of(5, 4), 3);
        due("USES", x.of(5, 3), 1);
        due("its new SCORE", x.of(5, 0), 10);
        due("no other's LAST", x.of(4, 4), 2);
        due("TYPED stays", x.told(5), 2);
    }

    // THE CLOCK can not come so far within 512 calls: what is further is free, and held all the same
    private static void clockAtItsEnd() {
        BestWords x = new BestWords();
        add(x, "a", 0, 0);
        write(x, "use a;".repeat(20));
        for (int i = 0; i < 380; i++) x.runs();
        due("as far as 512 calls go", x.told(2), 7600);
        due("USES", x.of(0, 3), 7600);
        due("LAST", x.of(0, 4), 7600);
        for (int i = 0; i < 119; i++) x.runs();
        for (int i = 0; i < 18; i++) x.use(0);
        due("one ahead of the end", x.told(2), 9998);
        x.use(0);
        due("the end", x.told(2), 9999);
        x.use(0);
        due("no further", x.told(2), 9999);
        due("LAST", x.of(0, 4), 9999);
        x.runs();
        due("no further by a text", x.told(2), 9999);
        x.rank(2);
        due("LAST is t", x.use(0), 30);
    }

    private static void score() {
        marks("score(4, 0)", Trial::rich, x -> x.score(4, 0), 1000);
        marks("score(5, 1000)", Trial::rich, x -> x.score(5, 1000), 0);
        marks("score to the same", Trial::rich, x -> x.score(0, 100), 100);
        for (int v : new int[] {-1, 1001, LEAST, MOST}) bad("score(0, " + v + ")", x -> x.score(0, v));
        badIfNotThere("score", (x, p) -> x.score(p, 5));
        BestWords x = rich();
        x.score(4, 0);
        due("the least", x.of(4, 0), 0);
        x.score(4, 1000);
        due("the greatest", x.of(4, 0), 1000);
        due("it is not chosen", x.of(4, 3), 1);
        due("THE CLOCK stays", x.told(2), 2);
    }

    private static void drop() {
        int[] scores = {100, 120, 0, 90, 1000, 0};
        for (int p : RICH_NUMBERS) {
            marks("drop(" + p + ")", Trial::rich, x -> x.drop(p), scores[p]);
            BestWords x = rich();
            x.drop(p);
            due("told(0)", x.told(0), 4);
            due("told(1)", x.told(1), 6);
            due("drop again", x.drop(p), BAD);
            for (int q : RICH_NUMBERS) due("of(" + q + ", 0) without " + p, x.of(q, 0), p == q ? BAD : scores[q]);
        }
        badIfNotThere("drop", (x, p) -> x.drop(p));
        BestWords x = new BestWords();
        add(x, "a", 3, 0);
        due("the only one", x.drop(0), 3);
        due("none is left", x.told(0), 0);
        due("under", x.under(), 0);
        due("it is back", x.undo(), 1);
        due("under", x.under(), 1);
        x = pairs(40, "");
        due("the last of 40", x.drop(39), 39);
        due("the first of 40", x.drop(0), 0);
        due("told(0)", x.told(0), 38);
        due("the greatest SCORE", x.top(), 38);
    }

    private static void nothingIsLeftOfOneDropped() {
        String[] words = {"ab", "abc", "h", "ba", "hh"};
        int[][] values = {{1000, 3}, {999, 3}, {1000, 0}, {500, 9}, {1000, 9}};
        for (int gone = 0; gone < words.length; gone++) {
            BestWords x = new BestWords();
            BestWords y = new BestWords();
            for (int i = 0; i < words.length; i++) {
                add(x, words[i], values[i][0], values[i][1]);
                add(y, i == gone ? "ggggg" : words[i], i == gone ? 0 : values[i][0], i == gone ? 0 : values[i][1]);
            }
            x.drop(gone);
            y.drop(gone);
            int[] left = new int[words.length - 1];
            for (int i = 0; i < left.length; i++) left[i] = i < gone ? i : i + 1;
            sameCompletions("without " + words[gone], x, y, left);
        }
    }

    private static void rank() {
        for (int kind = 0; kind <= 4; kind++) {
            int k = kind;
            marks("rank(" + kind + ")", Trial::rich, x -> x.rank(k), 3);
            BestWords x = rich();
            x.rank(k);
            due("told(3)", x.told(3), k);
        }
        for (int kind : new int[] {-1, 5, 6, LEAST, MOST}) bad("rank(" + kind + ")", x -> x.rank(kind));
        due("at first", new BestWords().rank(4), 0);
    }

    private static void slip() {
        for (int v : new int[] {0, 1, 40, 999, 1000}) {
            marks("slip(" + v + ")", Trial::rich, x -> x.slip(v), 40);
            BestWords x = rich();
            x.slip(v);
            due("told(4)", x.told(4), v);
        }
        for (int v : new int[] {-1, 1001, LEAST, MOST}) bad("slip(" + v + ")", x -> x.slip(v));
        due("at first", new BestWords().slip(0), 100);
    }

    private static void fades() {
        BestWords x = new BestWords();
        due("of none", x.fades(), 0);
        due("U all the same", x.told(6), 1);
        int[] scores = {0, 1, 2, 3, 999, 1000}, halves = {0, 0, 1, 1, 499, 500};
        for (int i = 0; i < scores.length; i++) add(x, "a" + (char) ('a' + i), scores[i], 0);
        due("of six", x.fades(), 6);
        for (int i = 0; i < scores.length; i++) due("half of " + scores[i], x.of(i, 0), halves[i]);
        x.undo();
        for (int i = 0; i < scores.length; i++) due("again " + scores[i], x.of(i, 0), scores[i]);
        due("of 40", pairs(40, "").fades(), 40);
        marks("fades", Trial::rich, y -> y.fades(), 5);
    }

    // ---- 16, 17

    private static void draw() {
        int[][] wrong = {{-1, 1}, {1000000, 1}, {0, 0}, {0, 10}, {0, -1}, {LEAST, 1}, {MOST, 1}, {0, LEAST}, {0, MOST}};
        for (int[] w : wrong) bad("draw(" + w[0] + ", " + w[1] + ")", x -> x.draw(w[0], w[1]));
        for (int seed : new int[] {0, 1, 999998, 999999}) for (int n = 1; n <= 9; n++) drawsAsTold(new BestWords(), seed, n);
        marks("draw", Trial::rich, x -> x.draw(0, 1), 1);
    }

    private static void drawnOnesCome() {
        for (int seed = 0; seed < 300; seed++) drawsAsTold(rich(), seed, 9);
        for (int many = 31; many <= 40; many++) drawsAsTold(pairs(many, "abc"), 4321, 9);
        for (int many = 196; many <= 200; many++) drawsAsTold(given(many, ""), 4321, 9);
        marks("draw of which none comes", BoundsOfPromises::drawnAlready, x -> x.draw(0, 1), 0);
        BestWords full = pairs(40, "aa");
        due("none comes in a full one", full.draw(0, 9), 0);
        BestWords last = given(200, "aa");
        due("none comes without a NUMBER", last.draw(0, 9), 0);
        for (int what = 8; what <= 10; what++)
            due("that is not refused, told(" + what + ")", full.told(what) + last.told(what), 0);
    }

    private static BestWords drawnAlready() {
        BestWords x = rich();
        x.undo();
        x.undo();
        x.draw(0, 1);
        return x;
    }

    /** Each one drawn comes as by adds(), or not at all, while the drawing goes on; TYPED stays. */
    private static void drawsAsTold(BestWords x, int seed, int n) {
        int given = x.told(1), room = Math.min(40 - x.told(0), 200 - given), typed = x.told(5), came = 0;
        BigInteger d = BigInteger.valueOf(seed);
        String[] words = new String[n];
        int[][] values = new int[n][];
        Set<String> there = wordsOf(x, given);
        for (int i = 0; i < n; i++) {
            d = next(d);
            int length = part(d, 65536, 5) + 1;
            StringBuilder word = new StringBuilder();
            for (int k = 0; k < length; k++) {
                d = next(d);
                word.append((char) ('a' + part(d, 65536, 8)));
            }
            d = next(d);
            if (came < room && there.add(word.toString())) {
                words[came] = word.toString();
                values[came++] = new int[] {part(d, 65536, 1001), part(d, 1024, 10), length, 0, NONE};
            }
        }
        String call = "draw(" + seed + ", " + n + ")";
        due(call, x.draw(seed, n), came);
        due(call + ", NUMBERS given", x.told(1), given + came);
        due(call + ", TYPED stays", x.told(5), typed);
        for (int i = 0; i < came; i++) {
            spelled(x, given + i, words[i]);
            for (int what = 0; what <= 4; what++) due(call + ", of(" + (given + i) + ", " + what + ")", x.of(given + i, what), values[i][what]);
        }
    }

    private static Set<String> wordsOf(BestWords x, int given) {
        Set<String> words = new HashSet<>();
        for (int p = Math.max(0, given - 41); p < given; p++) {
            StringBuilder word = new StringBuilder();
            for (int k = 0, length = x.of(p, 2); k < length; k++) word.append((char) ('a' + x.letter(p, k)));
            words.add(word.toString());
        }
        return words;
    }

    private static BigInteger next(BigInteger x) {
        return x.multiply(BigInteger.valueOf(1103515245)).add(BigInteger.valueOf(12345)).mod(BigInteger.valueOf(2147483648L));
    }

    private static int part(BigInteger x, int by, int left) {
        return x.divide(BigInteger.valueOf(by)).mod(BigInteger.valueOf(left)).intValue();
    }

    private static void undo() {
        leaves("none may be", Trial::empty, x -> x.undo(), NO, AS_NO);
        leaves("none may be any more", BoundsOfPromises::spent, x -> x.undo(), NO, AS_NO);
        BestWords x = rich();
        for (int more = 10; more >= 0; more--) due("undo", x.undo(), more);
        due("one more", x.undo(), NO);
        due("as at first, but for THE CLOCK", x.told(2), 2);
        due("told(0)", x.told(0), 0);
        due("told(1)", x.told(1), 0);
        due("told(3)", x.told(3), 0);
        due("told(4)", x.told(4), 100);
        due("told(5)", x.told(5), 2);
        due("told(7)", x.told(7), 6);
    }

    // phrases are there, but no call is known that might be undone
    private static BestWords spent() {
        BestWords x = rich();
        x.slip(1);
        x.slip(2);
        for (int i = 0; i < 12; i++) x.undo();
        due("one phrase is there", x.told(0), 1);
        return x;
    }

    // ---- 18, 19

    private static void listed(String call, OfOne asked, int[] v) {
        asks(call + "(NONE)", x -> asked.ask(x, NONE), v.length);
        for (int k = 0; k < v.length; k++) {
            int place = k;
            asks(call + "(" + k + ")", x -> asked.ask(x, place), v[k]);
        }
        for (int k : new int[] {v.length, v.length + 1, 39, 40, 41, 200, MOST}) asks(call + "(" + k + ")", x -> asked.ask(x, k), FEWER);
        for (int k : new int[] {-2, -3, -10, LEAST})
            leaves(call + "(" + k + ")", Trial::rich, x -> asked.ask(x, k), BAD_PLACE, AS_BAD);
        leaves(call + "(-2) in a new one", Trial::empty, x -> asked.ask(x, -2), BAD_PLACE, AS_BAD);
        leaves(call + "(NONE) in a new one", Trial::empty, x -> asked.ask(x, NONE), 0, UNCOUNTED);
        leaves(call + "(0) in a new one", Trial::empty, x -> asked.ask(x, 0), FEWER, UNCOUNTED);
        BestWords full = pairs(40, "");
        due(call + " of 40, how many", asked.ask(full, NONE), 40);
        for (int k = 0; k < 40; k++) due(call + " of 40, " + k, asked.ask(full, k), 39 - k);
        due(call + " of 40, 40", asked.ask(full, 40), FEWER);
        BestWords none = richTyped("hhh");
        due(call + " by none, how many", asked.ask(none, NONE), 0);
        due(call + " by none, 0", asked.ask(none, 0), FEWER);
        BestWords most = richTyped("abcdefghabcd");
        due(call + " by twelve, how many", asked.ask(most, NONE), 0);
    }

    private static void best() {
        listed("best", (x, k) -> x.best(k), new int[] {4, 1, 3});
    }

    private static void near() {
        listed("near", (x, k) -> x.near(k), new int[] {4, 1, 3, 5});
    }

    // ---- 20 to 25

    private static void top() {
        asks("top", x -> x.top(), 1000);
        leaves("none of a new one", Trial::empty, x -> x.top(), NONE, UNCOUNTED);
        leaves("none that BEGIN so", () -> richTyped("aa"), x -> x.top(), NONE, UNCOUNTED);
        leaves("a SCORE of 0", () -> richTyped("b"), x -> x.top(), 0, UNCOUNTED);
        due("by twelve", richTyped("abcdefghabcd").top(), NONE);
        due("one that is not TOLD counts, too", richTyped("abcd").top(), 1000);
        BestWords x = rich();
        x.drop(4);
        due("the greatest is gone", x.top(), 120);
        x.score(0, 121);
        due("another is greater", x.top(), 121);
    }

    private static void under() {
        asks("under", x -> x.under(), 4);
        leaves("of a new one", Trial::empty, x -> x.under(), 0, UNCOUNTED);
        leaves("none", () -> richTyped("aa"), x -> x.under(), 0, UNCOUNTED);
        due("all", richTyped("").under(), 5);
        due("TOLD or not", richTyped("").best(NONE), 4);
        due("40", pairs(40, "").under(), 40);
        due("8 of 40", pairs(40, "e").under(), 8);
        due("1 of 40", pairs(40, "eh").under(), 1);
        due("by twelve", richTyped("abcdefghabcd").under(), 0);
    }

    private static void close() {
        asks("close", x -> x.close(), 1);
        leaves("of a new one", Trial::empty, x -> x.close(), 0, UNCOUNTED);
        leaves("of none TYPED", () -> richTyped(""), x -> x.close(), 0, UNCOUNTED);
        due("TOLD or not", richTyped("ac").close(), 4);
        due("all of 40", pairs(40, "h").close(), 40);
        due("none of 40", pairs(40, "hhh").close(), 0);
        due("by nine", richTyped("abcdefghh").close(), 1);
        due("by ten", richTyped("abcdefghhh").close(), 0);
        due("by twelve", richTyped("abcdefghhhhh").close(), 0);
    }

    private static void ahead() {
        asks("ahead", x -> x.ahead(), 2);
        leaves("of a new one", Trial::empty, x -> x.ahead(), NONE, UNCOUNTED);
        leaves("none BEGINS so", () -> richTyped("h"), x -> x.ahead(), NONE, UNCOUNTED);
        leaves("none has more LETTERS", () -> richTyped("b"), x -> x.ahead(), NONE, UNCOUNTED);
        due("all eight", richTyped("abcdefgh").ahead(), NONE);
        due("the last of eight", richTyped("abcdefg").ahead(), 7);
        due("by twelve", richTyped("abcdefghabcd").ahead(), NONE);
        BestWords x = new BestWords();
        add(x, "a", 1000, 0);
        add(x, "ah", 3, 0);
        add(x, "ab", 3, 0);
        add(x, "aa", 2, 0);
        type(x, "a");
        due("one without more LETTERS is not of these; of like ones the lesser NUMBER", x.ahead(), 7);
        x.score(2, 4);
        due("one greater", x.ahead(), 1);
        x.score(3, 5);
        due("LETTER 0", x.ahead(), 0);
        type(x, "");
        due("the first one of all", x.ahead(), 0);
        x.drop(3);
        type(x, "a");
        due("the last one is gone", x.ahead(), 1);
        x.start();
        add(x, "ah", 3, 0);
        type(x, "a");
        due("one alone", x.ahead(), 7);
    }

    private static void common() {
        asks("common", x -> x.common(), 0);
        leaves("of a new one", Trial::empty, x -> x.common(), NONE, UNCOUNTED);
        leaves("there are none", () -> richTyped("aa"), x -> x.common(), NONE, UNCOUNTED);
        due("none alike", richTyped("").common(), 0);
        due("one alike", richTyped("a").common(), 1);
        due("one alone, all of it", richTyped("abcdefgh").common(), 0);
        due("one alone, three more", richTyped("abcde").common(), 3);
        due("by twelve", richTyped("abcdefghabcd").common(), NONE);
        BestWords x = new BestWords();
        add(x, "abcdefgh", 1, 0);
        type(x, "");
        due("eight", x.common(), 8);
        add(x, "abcdefga", 1, 0);
        due("seven", x.common(), 7);
        add(x, "abcde", 1, 0);
        due("five", x.common(), 5);
        add(x, "abd", 1, 0);
        due("two", x.common(), 2);
        add(x, "h", 1, 0);
        due("none", x.common(), 0);
    }

    private static void find() {
        asks("find", x -> x.find(), 0);
        leaves("nothing is TYPED", () -> richTyped(""), x -> x.find(), NONE, UNCOUNTED);
        leaves("of a new one", Trial::empty, x -> x.find(), NONE, UNCOUNTED);
        due("not all of it", richTyped("a").find(), NONE);
        due("eight", richTyped("abcdefgh").find(), 4);
        due("seven of eight", richTyped("abcdefg").find(), NONE);
        due("nine", richTyped("abcdefgha").find(), NONE);
        due("twelve", richTyped("abcdefghabcd").find(), NONE);
        due("one that is gone", richTyped("h").find(), NONE);
        due("the last of 40", pairs(40, "eh").find(), 39);
        due("the last NUMBER", given(200, "ad").find(), 199);
    }

    // ---- 26 to 29

    private static void keys() {
        int[] v = {NONE, NONE, 0, NONE, 0, 1};
        for (int p : RICH_NUMBERS) asks("keys(" + p + ")", x -> x.keys(p), v[p]);
        badIfNotThere("keys", (x, p) -> x.keys(p));
        BestWords x = new BestWords();
        add(x, "abcdefgh", 10, 0);
        due("alone", x.keys(0), 0);
        add(x, "abcdefga", 10, 0);
        due("like ones: the lesser NUMBER", x.keys(0), 0);
        due("like ones: all of it", x.keys(1), 8);
        x.score(1, 11);
        due("the other is greater", x.keys(0), 8);
        due("the greater", x.keys(1), 0);
        add(x, "abcd", 9, 0);
        due("it never is", x.keys(2), NONE);
        x.score(2, 10);
        due("like the one, and less than the other", x.keys(2), NONE);
        x.score(2, 11);
        due("like the first of them: the greater NUMBER", x.keys(2), NONE);
        x.score(2, 12);
        due("ahead of all", x.keys(2), 0);
        due("one LETTER more than it has", x.keys(1), 5);
        add(x, "h", 1000, 0);
        due("one LETTER", x.keys(2), 1);
        due("one LETTER more than it has", x.keys(1), 5);
        due("all eight", x.keys(0), 8);
        BestWords y = new BestWords();
        add(y, "ab", 5, 4);
        add(y, "abc", 5, 4);
        add(y, "abd", 6, 4);
        due("one that is alike in MEANING is ahead", y.keys(0), NONE);
        due("till it is the first", y.keys(1), 3);
    }

    private static void saved() {
        asks("saved", x -> x.saved(), 8 + 0);
        leaves("of a new one", Trial::empty, x -> x.saved(), 0, UNCOUNTED);
        BestWords x = new BestWords();
        add(x, "abcdefgh", 10, 0);
        due("all eight of one alone", x.saved(), 8);
        add(x, "abcd", 10, 0);
        due("one that never is the first saves none", x.saved(), 8);
        x.score(1, 11);
        due("four, and three", x.saved(), 4 + 3);
        add(x, "hhhhhhhh", 10, 0);
        due("seven more", x.saved(), 4 + 3 + 7);
        add(x, "hhhhhhha", 10, 0);
        due("none more", x.saved(), 4 + 3 + 7);
        type(x, "h");
        due("TYPED does not matter", x.saved(), 4 + 3 + 7);
        due("of 40 pairs: two, one of each other row's last, none of the rest", pairs(40, "").saved(), 2 + 4);
    }

    private static void twins() {
        asks("twins(0)", x -> x.twins(0), 1);
        asks("twins(1)", x -> x.twins(1), 1);
        asks("no others", x -> x.twins(4), 0);
        asks("0: none has it", x -> x.twins(3), 0);
        badIfNotThere("twins", (x, p) -> x.twins(p));
        BestWords x = new BestWords();
        for (int i = 0; i < 40; i++) {
            type(x, "" + (char) ('a' + i / 8) + (char) ('a' + i % 8));
            x.adds(i, i < 20 ? 9 : i < 39 ? 1 : 0);
        }
        due("of MEANING 9", x.twins(0), 19);
        due("of MEANING 9", x.twins(19), 19);
        due("of MEANING 1", x.twins(20), 18);
        due("of MEANING 0", x.twins(39), 0);
    }

    private static void alike() {
        asks("alike(0, 1)", x -> x.alike(0, 1), 2);
        asks("alike(4, 3)", x -> x.alike(4, 3), 4);
        asks("none", x -> x.alike(0, 5), 0);
        asks("the same", x -> x.alike(4, 4), 8);
        asks("the same of one LETTER", x -> x.alike(5, 5), 1);
        badIfNotThere("alike, the first", (x, p) -> x.alike(p, 0));
        badIfNotThere("alike, the second", (x, p) -> x.alike(0, p));
        badIfNotThere("alike, both", (x, p) -> x.alike(p, p));
        BestWords x = new BestWords();
        add(x, "abcdefgh", 1, 0);
        add(x, "abcdefga", 1, 0);
        add(x, "bbcdefgh", 1, 0);
        due("seven", x.alike(0, 1), 7);
        due("the first one other", x.alike(0, 2), 0);
    }

    // ---- 30 to 34

    private static void write() {
        for (int c : new int[] {0, 1, 31, 32, 59, 97, 126, 127}) due("write(" + c + ")", rich().write(c), 7);
        for (int c : new int[] {-1, -2, 128, 129, 255, 256, LEAST, MOST}) bad("write(" + c + ")", x -> x.write(c));
        due("the first", new BestWords().write(0), 1);
        due("byte 120", written(new BestWords(), " ".repeat(119)).write(0), 120);
        leaves("byte 121", () -> written(rich(), "fade;".repeat(24)), x -> x.write(';'), FULL, AS_FULL);
        leaves("byte 121", () -> written(rich(), "x".repeat(120)), x -> x.write(0), FULL, AS_FULL);
    }

    private static void erase() {
        due("of none", new BestWords().erase(), 0);
        leaves("of none, nothing counts", () -> written(rich(), ""), x -> x.erase(), 0, UNCOUNTED);
        due("of one", written(rich(), "x").erase(), 1);
        BestWords x = written(rich(), "x".repeat(120));
        due("of 120", x.erase(), 120);
        due("it is empty", x.told(7), 0);
        due("runs", x.runs(), -10);
        due("room again", x.write('x'), 1);
    }

    private static void runs() {
        marks("runs", Trial::rich, x -> x.runs(), 1);
        marks("all are passed over", () -> written(rich(), "use a;drop h;"), x -> x.runs(), 0);
        marks("one for all", () -> written(rich(), "fade;use b;drop ab;add c 1 1;rank 0;slip 0;"), x -> x.runs(), 6);
        marks("24", () -> written(rich(), "fade;".repeat(24)), x -> x.runs(), 24);
        BestWords x = written(rich(), "use b;");
        for (int i = 1; i <= 3; i++) due("THE TEXT stays, and runs again", x.runs(), 1);
        due("USES", x.of(5, 3), 3);
        due("bytes", x.told(7), 6);
        due("TYPED stays", x.told(5), 2);
        due("twelve known at most", x.told(6), 12);
        leaves("the least FAULT", () -> written(rich(), ""), y -> y.runs(), -10, UNCOUNTED);
        leaves("the greatest FAULT", () -> written(rich(), " ".repeat(120)), y -> y.runs(), -130, UNCOUNTED);
        leaves("a FAULT at 119", () -> written(rich(), " ".repeat(119) + ";"), y -> y.runs(), -129, UNCOUNTED);
    }

    private static void notPassedOver() {
        due("none of one", run(rich(), "use a;"), 0);
        due("one of one", run(rich(), "use b;"), 1);
        due("none of 20", run(rich(), "use a;".repeat(20)), 0);
        due("20 of 20", run(rich(), "use b;".repeat(20)), 20);
        due("one of 15: it is gone then", run(rich(), "drop ab;".repeat(15)), 1);
        due("one of 12: it is there then", run(rich(), "add c 1 1;".repeat(12)), 1);
        due("24 of 24", run(rich(), "fade;".repeat(24)), 24);
    }

    private static void told() {
        int[] v = {5, 6, 2, 3, 40, 2, 11, 6, 0, 0, 0};
        for (int what = 0; what <= 10; what++) {
            int which = what;
            asks("told(" + what + ")", x -> x.told(which), v[what]);
        }
        for (int what : new int[] {-1, -2, 11, 12, LEAST, MOST}) bad("told(" + what + ")", x -> x.told(what));
        BestWords x = rich();
        for (int i = 1; i <= 20; i++) {
            x.told(11);
            due("refused as BAD", x.told(8), i);
        }
        x.best(-2);
        x.near(-2);
        due("-10 is refused as BAD, too", x.told(8), 22);
        x.best(99);
        x.letter(0, 99);
        write(x, "x");
        x.runs();
        due("-5, NONE and a FAULT are not refused", x.told(8) + x.told(9) + x.told(10), 22);
    }

    private static void digest() {
        asks("digest", x -> x.digest(), digestOf(rich(), RICH_NUMBERS, "ab"));
        int[] all = new int[40];
        for (int i = 0; i < 40; i++) all[i] = i;
        due("of 40", pairs(40, "hhhhhhhhhhhh").digest(), digestOf(pairs(40, "hhhhhhhhhhhh"), all, "hhhhhhhhhhhh"));
        due("of the last NUMBERS", given(200, "").digest(), digestOf(given(200, ""), new int[] {196, 197, 198, 199}, ""));
        due("of a new one", new BestWords().digest(), digestOf(new BestWords(), new int[0], ""));
    }

    // without a bound on h, and cut to a long at the end: so it wraps around on the way as Java's long does
    private static long digestOf(BestWords x, int[] numbers, String typed) {
        BigInteger h = BigInteger.valueOf(2003);
        for (int what = 0; what <= 10; what++) h = more(h, x.told(what));
        for (int p : numbers) {
            h = more(h, p);
            for (int what = 0; what <= 4; what++) h = more(h, x.of(p, what));
            for (int k = 0, length = x.of(p, 2); k < length; k++) h = more(h, x.letter(p, k));
        }
        for (int k = 0; k < typed.length(); k++) h = more(h, typed.charAt(k) - 'a');
        return h.longValue();
    }

    private static BigInteger more(BigInteger h, int v) {
        return h.multiply(BigInteger.valueOf(31)).add(BigInteger.valueOf(v));
    }

    private static void promisesOfPhrases() {
        promise(1, "As told; no PHRASES. (One house stands at a time: another one begun, the first is over.)", BoundsOfPromises::newObject);
        promise(2, "All is as at first, THE CLOCK, too: 1.", BoundsOfPromises::start);
        promise(3, "A LETTER comes behind TYPED: how many. BAD; FULL: 12.", BoundsOfPromises::type);
        promise(4, "The last LETTER of TYPED is gone: how many are left. NO: there is none.", BoundsOfPromises::rub);
        promise(5, "TYPED becomes the first n LETTERS of a PHRASE: n. BAD: also more than it has.", BoundsOfPromises::types);
        promise(6, "TYPED is empty: how many it had.", BoundsOfPromises::clear);
        promise(7, "TYPED becomes a PHRASE, and is empty then: its NUMBER. U. BAD", BoundsOfPromises::adds);
        promise(7, "NO: TYPED has none, more than 8 LETTERS, there is one alike", BoundsOfPromises::addsNo);
        promise(7, "FULL: there are 40, or NUMBERS are at an end.", BoundsOfPromises::addsFull);
        promise(8, "BAD: it is not there (any more), too.", BoundsOfPromises::of);
        promise(9, "LETTER k of a PHRASE; NONE: it has fewer. BAD: k below 0, too.", BoundsOfPromises::letter);
        promise(10, "A PHRASE is chosen", BoundsOfPromises::use);
        promise(10, "THE CLOCK is 1 more (9999 at most)", BoundsOfPromises::clockAtItsEnd);
        promise(11, "SCORE of a PHRASE: what it was. U. BAD.", BoundsOfPromises::score);
        promise(12, "A PHRASE is gone: its SCORE. U. BAD.", BoundsOfPromises::drop);
        promise(12, "A PHRASE is gone", BoundsOfPromises::nothingIsLeftOfOneDropped);
        promise(13, "THE RANKER's KIND: what it was. U. BAD.", BoundsOfPromises::rank);
        promise(14, "SLIP: what it was. U. BAD.", BoundsOfPromises::slip);
        promise(15, "Each SCORE becomes half (cut): how many PHRASES there are. U.", BoundsOfPromises::fades);
        promise(16, "n times (1 .. 9) by DRAWS", BoundsOfPromises::draw);
        promise(16, "it comes as by adds() (TYPED stays), or, if that can not be, not: how many came. U. BAD.", BoundsOfPromises::drawnOnesCome);
        promise(17, "UNDO: how many more may be. NO: none may be.", BoundsOfPromises::undo);
    }

    private static void promisesOfCompletions() {
        promise(18, "The k-th of BEST; how many (k = NONE); -5: not so many. BAD: -10.", BoundsOfPromises::best);
        promise(19, "The k-th of NEAR; how many (k = NONE); -5: not so many. BAD: -10.", BoundsOfPromises::near);
        promise(20, "The greatest SCORE of those that BEGIN so; NONE: there are none.", BoundsOfPromises::top);
        promise(21, "How many BEGIN so (TOLD or not).", BoundsOfPromises::under);
        promise(22, "How many are CLOSE (TOLD or not).", BoundsOfPromises::close);
        promise(23, "has more LETTERS, and is first in ORDER of these; NONE.", BoundsOfPromises::ahead);
        promise(24, "How many LETTERS more than TYPED all have alike that BEGIN so; NONE: there are none.", BoundsOfPromises::common);
        promise(25, "The PHRASE that is TYPED, all of it; NONE.", BoundsOfPromises::find);
        promise(26, "The least n (0 .. how many it has), so that, its first n LETTERS TYPED, a PHRASE is the first of BEST; NONE: it never is. BAD.", BoundsOfPromises::keys);
        promise(27, "of PHRASES for which keys() is n how many they have, less n, together.", BoundsOfPromises::saved);
        promise(28, "How many others are alike in MEANING (0: none has it). BAD.", BoundsOfPromises::twins);
        promise(29, "How many LETTERS two PHRASES have alike at first. BAD.", BoundsOfPromises::alike);
        promise(30, "A byte (0 .. 127) comes behind THE TEXT: how many it has. BAD; FULL: 120.", BoundsOfPromises::write);
        promise(31, "THE TEXT is empty: how many it had.", BoundsOfPromises::erase);
        promise(32, "ORDERS are done: how many were not passed over.", BoundsOfPromises::notPassedOver);
        promise(32, "U (one for all, if there is no FAULT). -10 less the FAULT.", BoundsOfPromises::runs);
        promise(33, "8 refused as BAD, 9 as NO, 10 as FULL. BAD.", BoundsOfPromises::told);
        promise(34, "h = 2003; then h = 31 h + v for each v", BoundsOfPromises::digest);
    }

    public static void main(String[] args) throws Exception {
        readDocument();
        promisesOfPhrases();
        promisesOfCompletions();
        System.out.println(sentences() + " sentences of the promises");
        end();
    }
}
