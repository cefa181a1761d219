import java.nio.file.Files;
import java.nio.file.Path;
import java.util.function.Supplier;
import java.util.function.ToLongFunction;

/** What the tests share: answers that are due, houses of known states, and what a call may leave changed. */
class Trial {
    static final int NONE = -1, BAD = -2, NO = -3, FULL = -4, FEWER = -5, BAD_PLACE = -10;
    static final int LEAST = Integer.MIN_VALUE, MOST = Integer.MAX_VALUE;
    static final int UNCOUNTED = -1, AS_BAD = 8, AS_NO = 9, AS_FULL = 10;
    private static final String DOCUMENT = "../shared/DOC.md";
    private static int wrong = 0;
    private static int sentences = 0;
    private static String sentence = "";
    private static String document = "";

    static void due(String call, long got, long want) {
        if (got != want) {
            wrong++;
            System.out.println(sentence + call + " answered " + got + ", due is " + want);
        }
    }

    static void end() {
        System.out.println(wrong == 0 ? "all answers are as due" : wrong + " answers are not as due");
        if (wrong != 0) System.exit(1);
    }

    // ---- sentences of the document

    static void readDocument() throws Exception {
        document = Files.readString(Path.of(DOCUMENT)).replaceAll("\\s+", " ");
    }

    /** A test of one sentence, which must stand in the document word by word. */
    static void sentence(String quote, Runnable test) {
        sentences++;
        sentence = "\"" + quote + "\": ";
        due("it stands in the document", document.contains(quote) ? 1 : 0, 1);
        try {
            test.run();
        } catch (RuntimeException e) {
            due("it threw " + e, 1, 0);
        }
        sentence = "";
    }

    /** A sentence of the promise with this number. */
    static void promise(int number, String quote, Runnable test) {
        int from = document.indexOf("## Promise " + number + ":");
        int to = document.indexOf("## ", from + 3);
        due("promise " + number + " says: " + quote, from >= 0 && document.substring(from, to).contains(quote) ? 1 : 0, 1);
        sentence(quote, test);
    }

    static int sentences() {
        return sentences;
    }

    // ---- calls

    static void type(BestWords x, String word) {
        x.clear();
        for (int i = 0; i < word.length(); i++) x.type(word.charAt(i) - 'a');
    }

    static int add(BestWords x, String word, int score, int meaning) {
        type(x, word);
        return x.adds(score, meaning);
    }

    static void write(BestWords x, String text) {
        x.erase();
        for (int i = 0; i < text.length(); i++) x.write(text.charAt(i));
    }

    static int run(BestWords x, String text) {
        write(x, text);
        return x.runs();
    }

    /** A text of its own house: it must have its FAULT here, and leave all as it was. */
    static void faultAt(int place, String text) {
        leaves("runs() of '" + text + "'", () -> written(rich(), text), x -> x.runs(), -10 - place, UNCOUNTED);
    }

    static BestWords written(BestWords x, String text) {
        write(x, text);
        due("all of '" + text + "' is written", x.told(7), text.length());
        return x;
    }

    /** The word is spelled so by the phrase with this number. */
    static void spelled(BestWords x, int p, String word) {
        due("LETTERS of " + p, x.of(p, 2), word.length());
        for (int k = 0; k < word.length(); k++) due("letter(" + p + ", " + k + ")", x.letter(p, k), word.charAt(k) - 'a');
    }

    // ---- houses

    static BestWords empty() {
        return new BestWords();
    }

    /** Phrases 0, 1, 3, 4, 5, while 2 is gone; used, ranked by LOYAL, 11 that may be undone, "ab" TYPED, "use b;" written. */
    static BestWords rich() {
        BestWords x = new BestWords();
        add(x, "ab", 100, 3);
        add(x, "abc", 120, 3);
        add(x, "h", 7, 0);
        add(x, "abcd", 90, 0);
        add(x, "abcdefgh", 1000, 9);
        add(x, "b", 0, 0);
        x.use(1);
        x.use(4);
        x.drop(2);
        x.rank(3);
        x.slip(40);
        type(x, "ab");
        write(x, "use b;");
        return x;
    }

    static final int[] RICH_NUMBERS = {0, 1, 3, 4, 5};
    /** Gone, not given yet, the last one that can be, the first that can not, and far away. */
    static final int[] NOT_THERE = {2, 6, 7, 39, 40, 199, 200, 256, -1, -2, LEAST, MOST, 1 << 16, 1 << 30};

    static BestWords richTyped(String word) {
        BestWords x = rich();
        type(x, word);
        return x;
    }

    /** This many phrases of two letters, the i-th with the score i; then the word is TYPED. */
    static BestWords pairs(int many, String word) {
        BestWords x = new BestWords();
        for (int i = 0; i < many; i++) {
            x.type(i / 8);
            x.type(i % 8);
            x.adds(i, 0);
        }
        type(x, word);
        return x;
    }

    /** 196 to 200 NUMBERS given, those from 196 on to aa, ab, ac, ad, which are there; then the word is TYPED. */
    static BestWords given(int many, String word) {
        BestWords x = new BestWords();
        String text = "add a 1 1;drop a;";
        write(x, text.repeat(7));
        for (int i = 0; i < 28; i++) x.runs();
        x.erase();
        for (int i = 196; i < many; i++) add(x, "a" + (char) ('a' + i - 196), i, 0);
        due("NUMBERS given", x.told(1), many);
        type(x, word);
        return x;
    }

    // ---- what a call leaves

    /**
     * The call has this answer, one more is counted (or none), and all else is as in a house like it
     * where it was not called: what is told, THE TEXT, and all that can be undone.
     */
    static void leaves(String call, Supplier<BestWords> house, ToLongFunction<BestWords> asked, long answer, int count) {
        BestWords x = house.get();
        BestWords y = house.get();
        due(call, asked.applyAsLong(x), answer);
        sameBut(call, x, y, count);
        due(call + ", then runs()", x.runs(), y.runs());
        sameBut(call + ", then runs()", x, y, count);
        int known = y.told(6);
        for (int i = 1; i <= known; i++) {
            due(call + ", then undo() " + i, x.undo(), y.undo());
            sameBut(call + ", then undo() " + i, x, y, count);
        }
    }

    private static void sameBut(String call, BestWords x, BestWords y, int count) {
        for (int what = 0; what <= 10; what++)
            due(call + ", then told(" + what + ")", x.told(what), y.told(what) + (what == count ? 1 : 0));
        long more = x.digest() - y.digest();
        due(call + ", then digest()", count == UNCOUNTED ? more == 0 ? 1 : 0 : isPowerOf31(more), 1);
    }

    // one more of one count, with k values behind it, makes the digest greater by 31 to the k-th
    private static int isPowerOf31(long more) {
        long power = 1;
        for (int k = 0; k < 1000; k++) {
            if (power == more) return 1;
            power *= 31;
        }
        return 0;
    }

    /** Both answer all questions about completions alike, whatever is typed. */
    static void sameCompletions(String when, BestWords x, BestWords y, int... numbers) {
        for (String typed : new String[] {"", "a", "ab", "b", "h", "hh"}) {
            type(x, typed);
            type(y, typed);
            String how = when + ", '" + typed + "' TYPED, ";
            for (int k = NONE; k <= 6; k++) {
                due(how + "best(" + k + ")", x.best(k), y.best(k));
                due(how + "near(" + k + ")", x.near(k), y.near(k));
            }
            due(how + "top()", x.top(), y.top());
            due(how + "under()", x.under(), y.under());
            due(how + "close()", x.close(), y.close());
            due(how + "ahead()", x.ahead(), y.ahead());
            due(how + "common()", x.common(), y.common());
            due(how + "find()", x.find(), y.find());
        }
        due(when + ", saved()", x.saved(), y.saved());
        for (int p : numbers) {
            due(when + ", keys(" + p + ")", x.keys(p), y.keys(p));
            due(when + ", twins(" + p + ")", x.twins(p), y.twins(p));
        }
    }

    static void bad(String call, ToLongFunction<BestWords> asked) {
        leaves(call, Trial::rich, asked, BAD, AS_BAD);
    }

    /** The call is marked U: one more may be undone, 12 at most, and undo() brings the phrases and settings back. */
    static void marks(String call, Supplier<BestWords> house, ToLongFunction<BestWords> asked, long answer) {
        BestWords x = house.get();
        BestWords y = house.get();
        int known = Math.min(12, y.told(6) + 1);
        due(call, asked.applyAsLong(x), answer);
        due(call + ", then told(6)", x.told(6), known);
        int typed = x.told(5);
        int clock = x.told(2);
        due(call + ", then undo()", x.undo(), known - 1);
        due(call + ", then undo(), told(6)", x.told(6), known - 1);
        due(call + ", then undo(): TYPED stays", x.told(5), typed);
        due(call + ", then undo(): THE CLOCK runs on", x.told(2), clock);
        for (int what : new int[] {0, 1, 3, 4, 7, 8, 9, 10})
            due(call + ", then undo(), told(" + what + ")", x.told(what), y.told(what));
        for (int p : RICH_NUMBERS) {
            for (int what = 0; what <= 4; what++)
                due(call + ", then undo(), of(" + p + ", " + what + ")", x.of(p, what), y.of(p, what));
            for (int k = 0; k < 8; k++)
                due(call + ", then undo(), letter(" + p + ", " + k + ")", x.letter(p, k), y.letter(p, k));
        }
    }
}
