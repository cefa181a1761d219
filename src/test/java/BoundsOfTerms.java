import java.math.BigInteger;
import java.util.function.ToLongFunction;

/** Each sentence under "Terms" that names a bound: the last value that is allowed, the first that is not, empty and full. */
public final class BoundsOfTerms extends Trial {
    // ---- 1: letters, phrases, numbers

    private static void letters() {
        BestWords x = new BestWords();
        due("type(0)", x.type(0), 1);
        due("type(7)", x.type(7), 2);
        due("type(-1)", x.type(-1), BAD);
        due("type(8)", x.type(8), BAD);
        due("adds", x.adds(1, 0), 0);
        spelled(x, 0, "ah");
        due("a to h in a text", run(x, "add abcdefgh 1 0;"), 1);
        spelled(x, 1, "abcdefgh");
        due("the last letter in a text", run(x, "add h 1 0;"), 1);
        faultAt(4, "add i 1 0;");
        faultAt(4, "add ai 1 0;");
        faultAt(4, "add z 1 0;");
        faultAt(4, "add ` 1 0;");
        faultAt(5, "add a` 1 0;");
        faultAt(5, "add a{ 1 0;");
        faultAt(5, "add aA 1 0;");
        faultAt(4, "add A 1 0;");
    }

    private static void fortyPhrases() {
        BestWords x = pairs(39, "hh");
        due("the 40th", x.adds(1, 0), 39);
        due("told(0)", x.told(0), 40);
        due("the 41st by adds", add(x, "hg", 1, 0), FULL);
        due("the 41st by a text", run(x, "add hg 1 0;"), 0);
        due("the 41st by draw", x.draw(3, 9), 0);
        due("told(0)", x.told(0), 40);
        due("told(1)", x.told(1), 40);
        x.drop(0);
        due("one more and no other by a text", run(x, "add hg 1 0;add hf 1 0;"), 1);
        x.drop(1);
        due("one more and no other by draw", x.draw(3, 9), 1);
        x.drop(2);
        due("one more by adds", add(x, "he", 1, 0), 42);
        due("told(0)", x.told(0), 40);
        due("and no other", add(x, "hd", 1, 0), FULL);
        x.drop(39);
        due("one again", add(x, "hd", 1, 0), 43);
    }

    private static void numbersAsTheyCome() {
        BestWords x = new BestWords();
        due("the first", add(x, "a", 1, 0), 0);
        due("the next", add(x, "b", 1, 0), 1);
        x.drop(1);
        due("one that is gone keeps its NUMBER", add(x, "b", 1, 0), 2);
        due("by a text", run(x, "add c 1 0;"), 1);
        spelled(x, 3, "c");
        due("by draw", x.draw(8, 2), 2);
        due("NUMBERS given", x.told(1), 6);
        due("the last one drawn is there", x.of(5, 3), 0);
        due("none behind it", x.of(6, 3), BAD);
        x.drop(0);
        x.drop(2);
        x.drop(3);
        x.drop(4);
        x.drop(5);
        due("none is left, and none is given again", add(x, "d", 1, 0), 6);
        due("undo", x.undo(), 11);
        due("given again by UNDO", add(x, "e", 1, 0), 6);
        x.start();
        due("at first", add(x, "e", 1, 0), 0);
    }

    private static void numbersAtAnEnd() {
        BestWords x = given(199, "ad");
        due("the last NUMBER", x.adds(1, 0), 199);
        due("told(1)", x.told(1), 200);
        due("it is there", x.of(199, 0), 1);
        due("200 is not", x.of(200, 0), BAD);
        due("none by adds", add(x, "ae", 1, 0), FULL);
        due("none by a text", run(x, "add ae 1 0;"), 0);
        due("none by draw", x.draw(0, 9), 0);
        x.drop(199);
        due("none by drop", add(x, "ae", 1, 0), FULL);
        for (int i = 0; i < 3; i++) x.undo();
        due("it is back", x.of(199, 0), 1);
        x.undo();
        due("told(1)", x.told(1), 199);
        due("it is not there", x.of(199, 0), BAD);
        due("the last NUMBER by draw, and no other", x.draw(0, 9), 1);
        due("its USES", x.of(199, 3), 0);
        x.undo();
        due("the last NUMBER by a text, and no other", run(x, "add ae 5 0;add af 6 0;"), 1);
        spelled(x, 199, "ae");
    }

    private static void oneToEightLetters() {
        BestWords x = new BestWords();
        due("no LETTERS", add(x, "", 1, 0), NO);
        due("one", add(x, "h", 1, 0), 0);
        spelled(x, 0, "h");
        due("eight", add(x, "hgfedcba", 1, 0), 1);
        spelled(x, 1, "hgfedcba");
        due("nine", add(x, "hgfedcbaa", 1, 0), NO);
        due("twelve", add(x, "hgfedcbaabcd", 1, 0), NO);
        due("one and eight by a text", run(x, "add a 1 0;add aaaaaaaa 1 0;"), 2);
        spelled(x, 2, "a");
        spelled(x, 3, "aaaaaaaa");
        due("nine by a text", run(x, "add aaaaaaaaa 1 0;"), -14);
    }

    private static void noTwoAlike() {
        BestWords x = new BestWords();
        add(x, "abcdefgh", 1, 0);
        add(x, "a", 1, 0);
        due("alike, of eight", add(x, "abcdefgh", 2, 1), NO);
        due("alike, of one", add(x, "a", 2, 1), NO);
        due("alike, by a text", run(x, "add a 1 0;add abcdefgh 2 1;"), 0);
        due("SCORE stays", x.of(0, 0), 1);
        due("one LETTER fewer", add(x, "abcdefg", 1, 0), 2);
        due("the last one other", add(x, "abcdefga", 1, 0), 3);
        due("the first one other", add(x, "bbcdefgh", 1, 0), 4);
        due("one LETTER more", add(x, "aa", 1, 0), 5);
        x.drop(0);
        due("one that is gone may come again", add(x, "abcdefgh", 1, 0), 6);
        due("but not twice", add(x, "abcdefgh", 1, 0), NO);
        x.start();
        due("drawn", x.draw(77, 1), 1);
        due("alike, drawn", x.draw(77, 1), 0);
        due("told(0)", x.told(0), 1);
        x.drop(0);
        due("drawn again", x.draw(77, 1), 1);
    }

    private static void scores() {
        BestWords x = new BestWords();
        due("adds(0, 0)", add(x, "a", 0, 0), 0);
        due("adds(1000, 0)", add(x, "b", 1000, 0), 1);
        due("adds(-1, 0)", add(x, "c", -1, 0), BAD);
        due("adds(1001, 0)", add(x, "c", 1001, 0), BAD);
        due("of", x.of(0, 0), 0);
        due("of", x.of(1, 0), 1000);
        due("score(0, 1000)", x.score(0, 1000), 0);
        due("score(0, 1001)", x.score(0, 1001), BAD);
        due("score(1, 0)", x.score(1, 0), 1000);
        due("score(1, -1)", x.score(1, -1), BAD);
        due("in a text", run(x, "add c 1000 0;add d 0 0;score a 0;score b 1000;"), 4);
        int[] v = {0, 1000, 1000, 0};
        for (int p = 0; p < v.length; p++) due("of(" + p + ", 0)", x.of(p, 0), v[p]);
        faultAt(6, "add c 1001 0;");
        faultAt(8, "score b 1001;");
        faultAt(8, "score b 9999;");
        faultAt(8, "score b -1;");
    }

    private static void meanings() {
        BestWords x = new BestWords();
        due("adds(1, 9)", add(x, "a", 1, 9), 0);
        due("adds(1, 0)", add(x, "b", 1, 0), 1);
        due("adds(1, 10)", add(x, "c", 1, 10), BAD);
        due("adds(1, -1)", add(x, "c", 1, -1), BAD);
        due("in a text", run(x, "add c 1 9;add d 1 0;"), 2);
        int[] v = {9, 0, 9, 0};
        for (int p = 0; p < v.length; p++) due("of(" + p + ", 1)", x.of(p, 1), v[p]);
        due("9 is a MEANING", x.twins(0), 1);
        due("0 is none", x.twins(1), 0);
        type(x, "");
        due("one of 9, two of none", x.best(NONE), 3);
        faultAt(8, "add c 1 10;");
        faultAt(8, "add c 1 9999;");
    }

    private static void usesAndLast() {
        BestWords x = new BestWords();
        add(x, "a", 1, 0);
        run(x, "add aaaaaaaa 1 0;");
        x.draw(9, 1);
        for (int p = 0; p < 3; p++) {
            due("USES of " + p, x.of(p, 3), 0);
            due("LAST of " + p, x.of(p, 4), NONE);
        }
        x.use(1);
        x.use(1);
        x.use(0);
        int[][] v = {{1, 3}, {2, 2}, {0, NONE}};
        for (int p = 0; p < 3; p++) {
            due("USES of " + p, x.of(p, 3), v[p][0]);
            due("LAST of " + p, x.of(p, 4), v[p][1]);
        }
        x.drop(1);
        add(x, "aaaaaaaa", 1, 0);
        due("USES of a new one", x.of(3, 3), 0);
        due("LAST of a new one", x.of(3, 4), NONE);
        x.use(3);
        x.drop(3);
        add(x, "aaaaaaaa", 1, 0);
        due("USES of one in the place of the last one", x.of(4, 3), 0);
        due("LAST of one in the place of the last one", x.of(4, 4), NONE);
    }

    private static void clockAtFirst() {
        BestWords x = new BestWords();
        due("told(2)", x.told(2), 0);
        due("a BAD one is not chosen", x.use(0), BAD);
        due("told(2)", x.told(2), 0);
        add(x, "a", 1, 0);
        due("told(2)", x.told(2), 0);
        x.use(0);
        due("told(2)", x.told(2), 1);
        due("LAST", x.of(0, 4), 1);
    }

    // ---- rankers

    /** The SCORE of one that had USES, was chosen last so long ago (or never, when it had none), and is chosen now. */
    private static int chosen(int kind, int score, int uses, int ago) {
        BestWords x = new BestWords();
        add(x, "a", score, 0);
        add(x, "b", 0, 0);
        for (int i = 0; i < uses; i++) x.use(0);
        for (int i = 1; i < ago; i++) x.use(1);
        x.rank(kind);
        return x.use(0);
    }

    private static void ranks(int kind, int uses, int ago, int[][] scores) {
        for (int[] s : scores)
            due("KIND " + kind + ", " + uses + " USES, " + ago + " ago, SCORE " + s[0], chosen(kind, s[0], uses, ago), s[1]);
    }

    private static void kinds() {
        BestWords x = new BestWords();
        due("at first", x.told(3), 0);
        due("rank(4)", x.rank(4), 0);
        due("rank(5)", x.rank(5), BAD);
        due("rank(0)", x.rank(0), 4);
        due("rank(-1)", x.rank(-1), BAD);
        due("told(3)", x.told(3), 0);
        due("in a text", run(x, "rank 4;"), 1);
        due("told(3)", x.told(3), 4);
        due("in a text", run(x, "rank 0;"), 1);
        due("told(3)", x.told(3), 0);
        faultAt(5, "rank 5;");
        faultAt(5, "rank 9999;");
    }

    private static void oneMoreByThen() {
        due("three ago", chosen(2, 100, 1, 3), 130);
        due("four ago", chosen(2, 100, 1, 4), 110);
        BestWords x = new BestWords();
        add(x, "a", 1, 0);
        x.use(0);
        due("LAST is THE CLOCK, one more", x.of(0, 4), 1);
        due("told(2)", x.told(2), 1);
        due("in a text", run(x, "use a;use a;"), 2);
        due("LAST", x.of(0, 4), 3);
    }

    private static void plain() {
        ranks(0, 0, 1, new int[][] {{0, 0}, {1, 1}, {999, 999}, {1000, 1000}});
        ranks(0, 31, 1, new int[][] {{0, 0}, {500, 500}, {1000, 1000}});
    }

    private static void steady() {
        int[][] scores = {{0, 10}, {989, 999}, {990, 1000}, {991, 1000}, {1000, 1000}};
        ranks(1, 0, 1, scores);
        ranks(1, 31, 1, scores);
    }

    private static void fresh() {
        ranks(2, 1, 1, new int[][] {{0, 30}, {969, 999}, {970, 1000}, {971, 1000}, {990, 1000}, {1000, 1000}});
        ranks(2, 31, 2, new int[][] {{0, 30}, {970, 1000}, {971, 1000}});
        ranks(2, 1, 3, new int[][] {{0, 30}, {969, 999}, {1000, 1000}});
        ranks(2, 1, 4, new int[][] {{0, 10}, {989, 999}, {990, 1000}, {991, 1000}, {1000, 1000}});
        ranks(2, 40, 5, new int[][] {{0, 10}});
    }

    // NONE, taken for a time, would be late enough while THE CLOCK is 1 and 2
    private static void freshIfItWasChosen() {
        for (int t = 1; t <= 5; t++) ranks(2, 0, t, new int[][] {{0, 10}, {100, 110}, {991, 1000}});
        BestWords x = new BestWords();
        add(x, "a", 100, 0);
        x.rank(2);
        due("chosen", x.use(0), 110);
        x.undo();
        due("the choice is taken back, t is 2", x.use(0), 110);
        due("LAST", x.of(0, 4), 2);
        due("chosen again", x.use(0), 140);
    }

    private static void loyal() {
        ranks(3, 0, 1, new int[][] {{0, 10}, {989, 999}, {990, 1000}, {991, 1000}});
        ranks(3, 1, 1, new int[][] {{0, 11}, {988, 999}, {989, 1000}, {990, 1000}});
        ranks(3, 29, 1, new int[][] {{0, 39}, {960, 999}, {961, 1000}, {962, 1000}});
        ranks(3, 30, 1, new int[][] {{0, 40}, {959, 999}, {960, 1000}, {961, 1000}});
        ranks(3, 31, 1, new int[][] {{0, 40}, {959, 999}, {960, 1000}, {961, 1000}});
        ranks(3, 200, 9, new int[][] {{0, 40}, {1000, 1000}});
    }

    private static void hot() {
        ranks(4, 0, 1, new int[][] {{0, 20}, {979, 999}, {980, 1000}, {981, 1000}, {1000, 1000}});
        ranks(4, 0, 2, new int[][] {{0, 20}});
        ranks(4, 1, 1, new int[][] {{0, 60}, {939, 999}, {940, 1000}, {941, 1000}, {995, 1000}, {1000, 1000}});
        ranks(4, 31, 3, new int[][] {{0, 60}});
        ranks(4, 31, 4, new int[][] {{0, 20}, {979, 999}, {980, 1000}});
    }

    private static void asAhead() {
        due("USES 0 ahead", chosen(3, 0, 0, 1), 10);
        due("USES 1 ahead", chosen(3, 0, 1, 1), 11);
        due("LAST NONE ahead", chosen(2, 0, 0, 1), 10);
        due("LAST ahead", chosen(2, 0, 1, 1), 30);
    }

    // ---- typed, begins, close

    private static void typedTwelve() {
        BestWords x = new BestWords();
        due("none at first", x.told(5), 0);
        for (int i = 1; i <= 12; i++) due("LETTER " + i, x.type(7), i);
        due("the 13th", x.type(7), FULL);
        due("told(5)", x.told(5), 12);
        due("one fewer", x.rub(), 11);
        due("the 12th again", x.type(0), 12);
        long h = 2003;
        for (int v : new int[] {0, 0, 0, 0, 100, 12, 0, 0, 0, 0, 1, 7, 7, 7, 7, 7, 7, 7, 7, 7, 7, 7, 0}) h = 31 * h + v;
        due("all of them are kept", x.digest(), h);
    }

    private static void beginsWhen(String word, String typed, int want) {
        BestWords x = new BestWords();
        add(x, word, 5, 0);
        type(x, typed);
        String how = word + " by '" + typed + "', ";
        due(how + "under", x.under(), want);
        due(how + "best", x.best(NONE), want);
        due(how + "top", x.top(), want == 1 ? 5 : NONE);
        due(how + "common", x.common(), want == 1 ? word.length() - typed.length() : NONE);
    }

    private static void begins() {
        beginsWhen("a", "", 1);
        beginsWhen("abcdefgh", "", 1);
        beginsWhen("abcdefgh", "a", 1);
        beginsWhen("abcdefgh", "b", 0);
        beginsWhen("abcdefgh", "abcdefg", 1);
        beginsWhen("abcdefgh", "abcdefgg", 0);
        beginsWhen("abcdefgh", "bbcdefgh", 0);
        beginsWhen("abcdefgh", "abcdefgh", 1);
        beginsWhen("abcdefgh", "abcdefgha", 0);
        beginsWhen("abcdefgh", "abcdefghabcd", 0);
        beginsWhen("a", "a", 1);
        beginsWhen("a", "aa", 0);
        beginsWhen("aaaaaaaa", "aaaaaaaaaaaa", 0);
        beginsWhen("hhhhhhhh", "hhhhhhhh", 1);
    }

    private static void closeWhen(String word, String typed, int want) {
        BestWords x = new BestWords();
        add(x, word, 5, 0);
        type(x, typed);
        String how = word + " by '" + typed + "', ";
        due(how + "close", x.close(), want);
        due(how + "near", x.near(NONE), word.startsWith(typed) ? 1 : want);
    }

    private static void closeIfItDoesNot() {
        closeWhen("abc", "", 0);
        closeWhen("abc", "a", 0);
        closeWhen("abc", "ab", 0);
        closeWhen("abc", "abc", 0);
        closeWhen("aaa", "aa", 0);
        closeWhen("aaa", "aaaa", 1);
    }

    private static void closeOfNoneOrAll() {
        closeWhen("abcdefgh", "h", 1);
        closeWhen("abcdefgh", "b", 1);
        closeWhen("a", "b", 1);
        closeWhen("abcdefgh", "hh", 0);
        closeWhen("a", "ba", 1);
        closeWhen("a", "ab", 1);
        closeWhen("a", "bb", 0);
        closeWhen("a", "aab", 0);
        closeWhen("abcdefgh", "abcdefgha", 1);
        closeWhen("abcdefgh", "aabcdefgh", 1);
        closeWhen("abcdefgh", "abcdefgg", 1);
        closeWhen("abcdefgh", "bcdefgh", 1);
        closeWhen("abcdefgh", "abcdefghab", 0);
        closeWhen("abcdefgh", "hhabcdefgh", 0);
        closeWhen("abcdefgh", "abcdefghabcd", 0);
    }

    private static void closeByOneMore() {
        closeWhen("abcdefgh", "habc", 1);
        closeWhen("abcdefgh", "ahbc", 1);
        closeWhen("abcdefgh", "abhc", 1);
        closeWhen("abcdefgh", "abch", 1);
        closeWhen("abcdefgh", "abcdhefgh", 1);
        closeWhen("abcdefgh", "hahb", 0);
        closeWhen("abcdefgh", "abcdhefgha", 0);
    }

    private static void closeByOneFewer() {
        closeWhen("abcdefgh", "bc", 1);
        closeWhen("abcdefgh", "ac", 1);
        closeWhen("abcdefgh", "abcdefh", 1);
        closeWhen("abcdefgh", "abcdegh", 1);
        closeWhen("abcdefgh", "cd", 0);
        closeWhen("abcdefgh", "ad", 1);
        closeWhen("abcdefgh", "abf", 1);
        closeWhen("abcdefgh", "abfg", 0);
        closeWhen("abcdefgh", "bcdefg", 1);
        closeWhen("abcdefgh", "bcdegh", 0);
    }

    private static void closeByAnother() {
        closeWhen("abcdefgh", "hb", 1);
        closeWhen("abcdefgh", "hbcdefgh", 1);
        closeWhen("abcdefgh", "abchefgh", 1);
        closeWhen("abcdefgh", "abcdefga", 1);
        closeWhen("abcdefgh", "hbcdefga", 0);
        closeWhen("abcdefgh", "hacdefgh", 0);
        closeWhen("abcdefgh", "hbcdefgha", 0);
        closeWhen("abab", "bbaa", 0);
        closeWhen("abab", "baab", 0);
        closeWhen("abab", "abbb", 1);
    }

    // ---- order, told, slip

    private static void order() {
        BestWords x = new BestWords();
        add(x, "a", 500, 0);
        add(x, "b", 501, 0);
        add(x, "c", 500, 0);
        add(x, "d", 499, 0);
        int[] v = {1, 0, 2, 3, FEWER};
        for (int k = 0; k < v.length; k++) due("best(" + k + ")", x.best(k), v[k]);
        x.score(3, 500);
        x.score(1, 500);
        for (int k = 0; k < 4; k++) due("all alike: best(" + k + ")", x.best(k), k);
        x.score(2, 1000);
        x.score(0, 0);
        int[] w = {2, 1, 3, 0};
        for (int k = 0; k < 4; k++) due("best(" + k + ")", x.best(k), w[k]);
    }

    private static void bestByScore() {
        BestWords x = new BestWords();
        add(x, "a", 0, 0);
        add(x, "b", 1000, 0);
        add(x, "ab", 1000, 0);
        add(x, "ah", 1, 0);
        for (int slip : new int[] {0, 1000}) {
            x.slip(slip);
            type(x, "a");
            int[] v = {2, 3, 0, FEWER};
            for (int k = 0; k < v.length; k++) due("a TYPED, SLIP " + slip + ", best(" + k + ")", x.best(k), v[k]);
            type(x, "");
            int[] w = {1, 2, 3, 0, FEWER};
            for (int k = 0; k < w.length; k++) due("none TYPED, SLIP " + slip + ", best(" + k + ")", x.best(k), w[k]);
        }
    }

    private static void toldOfAMeaning() {
        BestWords x = new BestWords();
        int[][] phrases = {{5, 9}, {6, 9}, {6, 9}, {7, 1}, {7, 1}, {3, 0}, {3, 0}, {8, 0}, {1, 8}};
        for (int i = 0; i < phrases.length; i++) add(x, "a" + (char) ('a' + i % 8) + (i > 7 ? "a" : ""), phrases[i][0], phrases[i][1]);
        type(x, "a");
        int[] v = {7, 3, 1, 5, 6, 8, FEWER};
        for (int k = 0; k < v.length; k++) {
            due("best(" + k + ")", x.best(k), v[k]);
            due("near(" + k + ")", x.near(k), v[k]);
        }
        due("TOLD", x.best(NONE), 6);
        due("TOLD or not", x.under(), 9);
        x.drop(1);
        due("another one is TOLD", x.best(2), 2);
        type(x, "aa");
        due("the first of those that BEGIN so", x.best(0), 0);
        due("and the one without the MEANING's other", x.best(1), 8);
    }

    private static void nearOrder() {
        BestWords x = new BestWords();
        add(x, "ba", 500, 0);
        add(x, "aa", 400, 0);
        type(x, "aa");
        due("SLIP is 100 at first: like ones", x.near(0), 0);
        x.score(0, 499);
        due("one less", x.near(0), 1);
        x.score(1, 398);
        due("one more", x.near(0), 0);
        due("CLOSE ones are not of BEST", x.best(0), 1);
        due("CLOSE ones are not of BEST", x.best(1), FEWER);
        x.slip(0);
        x.score(0, 398);
        due("SLIP 0: like ones", x.near(0), 0);
        x.score(0, 397);
        due("SLIP 0: less", x.near(0), 1);
        x.slip(1000);
        x.score(0, 1000);
        x.score(1, 0);
        due("SLIP 1000: like ones", x.near(0), 0);
        x.score(1, 1);
        due("SLIP 1000: less", x.near(0), 1);
        due("all are there", x.near(NONE), 2);
    }

    private static void nearBelowNothing() {
        BestWords x = new BestWords();
        add(x, "ba", 0, 0);
        add(x, "ca", 1, 0);
        add(x, "aa", 0, 0);
        add(x, "da", 1, 5);
        add(x, "ea", 2, 5);
        type(x, "aa");
        x.slip(1000);
        int[] v = {2, 4, 1, 0, FEWER};
        for (int k = 0; k < v.length; k++) due("near(" + k + ")", x.near(k), v[k]);
        due("how many", x.near(NONE), 4);
    }

    private static void nearTold() {
        BestWords x = new BestWords();
        add(x, "aa", 400, 3);
        add(x, "ba", 501, 3);
        type(x, "aa");
        due("the CLOSE one is ahead", x.near(0), 1);
        due("the other is not TOLD", x.near(1), FEWER);
        x.score(1, 500);
        due("like ones: the lesser NUMBER", x.near(0), 0);
        due("the CLOSE one is not TOLD", x.near(1), FEWER);
        due("CLOSE, TOLD or not", x.close(), 1);
    }

    private static void slips() {
        BestWords x = new BestWords();
        due("at first", x.told(4), 100);
        due("slip(1000)", x.slip(1000), 100);
        due("slip(1001)", x.slip(1001), BAD);
        due("slip(0)", x.slip(0), 1000);
        due("slip(-1)", x.slip(-1), BAD);
        due("told(4)", x.told(4), 0);
        due("in a text", run(x, "slip 1000;"), 1);
        due("told(4)", x.told(4), 1000);
        due("in a text", run(x, "slip 0;"), 1);
        due("told(4)", x.told(4), 0);
        faultAt(5, "slip 1001;");
        faultAt(5, "slip 9999;");
    }

    // ---- 2: the text

    private static void textOf120() {
        BestWords x = new BestWords();
        for (int i = 1; i <= 120; i++) due("byte " + i, x.write("fade;".charAt((i - 1) % 5)), i);
        due("byte 121", x.write(';'), FULL);
        due("told(7)", x.told(7), 120);
        due("all ORDERS are done", x.runs(), 24);
        due("erase", x.erase(), 120);
        due("119 bytes and a blank", run(x, "fade;".repeat(23) + "fade "), -130);
        due("120 bytes, the last a blank", run(x, "fade;".repeat(23) + "    "), 23);
        due("120 blanks", run(x, " ".repeat(120)), -130);
        due("it ends too early at 120", run(x, "fade;".repeat(23) + "  use"), -130);
        due("the last byte can not stand there", run(x, "fade;".repeat(23) + "    ;"), -129);
        due("a word of 120", run(x, "a".repeat(120)), -10);
        due("a NUMBER of 115", run(x, "rank " + "0".repeat(115)), -15);
    }

    private static void endedBySemicolon() {
        faultAt(4, "fade");
        faultAt(9, "fade;fade");
        faultAt(5, "fade fade;");
        faultAt(6, "rank 1");
        faultAt(6, "rank 1rank 1;");
        faultAt(6, "rank 1,rank 1;");
        faultAt(0, ";");
        faultAt(5, "fade;;");
        faultAt(5, "fade;;fade;");
        faultAt(0, ";fade;");
        due("one", run(rich(), "fade;"), 1);
        due("two", run(rich(), "fade;fade;"), 2);
    }

    private static void formsOfOrders() {
        String[] right = {"add a 1 1;", "use b;", "score b 1;", "drop b;", "rank 1;", "slip 1;", "fade;"};
        for (String text : right) due(text, run(rich(), text), 1);
        String[] names = {"ad", "adds", "us", "uses", "scor", "scores", "dro", "drops", "ran", "ranks", "sli", "slips", "fad",
            "fades", "a", "ADD", "Fade", "faded", "undo", "draw", "start", "1", ",", "h"};
        for (String name : names) faultAt(0, name + " a 1 1;");
        faultAt(3, "add;");
        faultAt(5, "add a;");
        faultAt(7, "add a 1;");
        faultAt(10, "add a 1 1 1;");
        faultAt(10, "add a 1 1 a;");
        faultAt(4, "add 1 a 1;");
        faultAt(6, "add a a 1;");
        faultAt(8, "add a 1 a;");
        faultAt(3, "use;");
        faultAt(4, "use 1;");
        faultAt(6, "use a a;");
        faultAt(6, "use a 1;");
        faultAt(5, "score;");
        faultAt(6, "score 1 a;");
        faultAt(7, "score a;");
        faultAt(8, "score a a;");
        faultAt(10, "score a 1 1;");
        faultAt(4, "drop;");
        faultAt(5, "drop 1;");
        faultAt(7, "drop a a;");
        faultAt(7, "drop a 1;");
        faultAt(4, "rank;");
        faultAt(5, "rank a;");
        faultAt(7, "rank 1 1;");
        faultAt(7, "rank 1 a;");
        faultAt(4, "slip;");
        faultAt(5, "slip a;");
        faultAt(7, "slip 1 1;");
        faultAt(7, "slip 1 a;");
        faultAt(5, "fade a;");
        faultAt(5, "fade 1;");
    }

    private static void wordsInTexts() {
        for (String word : new String[] {"a", "h", "abcdefgh", "hhhhhhhh", "add", "fade", "bad"}) {
            BestWords x = new BestWords();
            due(word, run(x, "add " + word + " 1 1;use " + word + ";score " + word + " 2;"), 3);
            spelled(x, 0, word);
            due("it is gone", run(x, "drop " + word + ";"), 1);
        }
        for (String name : new String[] {"add", "use", "score", "drop"}) {
            int at = name.length() + 1;
            String rest = name.equals("add") ? " 1 1;" : name.equals("score") ? " 1;" : ";";
            faultAt(at, name + " aaaaaaaaa" + rest);
            faultAt(at, name + " abcdefghabcdefgh" + rest);
            faultAt(at, name + " abcdefgi" + rest);
            faultAt(at, name + " iabcdefg" + rest);
            faultAt(at, name + " use" + rest);
        }
    }

    private static void numbersInTexts() {
        BestWords x = new BestWords();
        due("one figure", run(x, "add a 0 0;slip 0;rank 0;"), 3);
        due("four figures", run(x, "score a 0001;slip 0010;rank 0004;add b 1000 0009;"), 4);
        due("SCORE", x.of(0, 0), 1);
        due("SLIP", x.told(4), 10);
        due("KIND", x.told(3), 4);
        due("SCORE", x.of(1, 0), 1000);
        due("MEANING", x.of(1, 1), 9);
        due("all figures", run(x, "score a 123;score b 456;slip 789;"), 3);
        due("123", x.of(0, 0), 123);
        due("456", x.of(1, 0), 456);
        due("789", x.told(4), 789);
        faultAt(5, "slip 00000;");
        faultAt(5, "rank 00001;");
        faultAt(6, "add a 00001 1;");
        faultAt(8, "add a 1 00001;");
        faultAt(8, "score a 01000;");
        faultAt(5, "slip /;");
        faultAt(5, "slip :;");
        faultAt(6, "slip 1/;");
        faultAt(6, "slip 1:;");
        faultAt(6, "slip 1.0;");
        faultAt(5, "slip +1;");
        faultAt(5, "slip -1;");
        faultAt(6, "slip 1a;");
    }

    private static void blanks() {
        String[] right = {" fade;", "fade ;", "fade; ", "   fade   ;   ", "fade; fade;", "add a 1 1;", "  add  a  1  1  ;  ",
            "add a1 1;", "add a1 1 ;", "score b1;", "score b 1;", "rank1;", "slip1000;", "rank 1 ;", "use b ;", "use  b;"};
        for (String text : right) due("'" + text + "'", run(rich(), text), text.equals("fade; fade;") ? 2 : 1);
        faultAt(0, "adda 1 1;");
        faultAt(0, "useb;");
        faultAt(0, "dropb;");
        faultAt(0, "scoreb 1;");
        faultAt(0, "fa de;");
        faultAt(0, "ad d a 1 1;");
        faultAt(6, "use a b;");
        faultAt(7, "slip 1 0;");
        faultAt(10, "add a 1 1 0;");
        faultAt(8, "add a 11;");
        for (int c : new int[] {0, 9, 10, 13, 31, 33, 127}) {
            faultAt(3, "use" + (char) c + "b;");
            faultAt(4, "fade" + (char) c + ";");
            faultAt(5, "fade;" + (char) c);
            faultAt(0, (char) c + "fade;");
        }
    }

    private static void firstFault() {
        faultAt(0, "x a 1 1;");
        faultAt(3, "   x a 1 1;");
        faultAt(4, "add i 9999 99;");
        faultAt(6, "add a 1001 10;");
        faultAt(11, "add a 1000 10;");
        faultAt(13, "add a 1000 9 9;");
        faultAt(5, "fade;x;y;");
        faultAt(6, "fade; ,,");
        faultAt(5, "use a,b;");
        faultAt(5, "use a1;");
        faultAt(3, "add1 a 1;");
        faultAt(115, "fade;".repeat(23) + "x");
        faultAt(119, "fade;".repeat(23) + "fade,");
    }

    private static void aRunIsOne() {
        faultAt(4, "use abcdefgha;");
        faultAt(4, "use aaaaaaaaz;");
        faultAt(4, "use zaaaaaaaaaaaa;");
        faultAt(0, "useuse b;");
        faultAt(0, "fadea;");
        faultAt(5, "rank 5;");
        faultAt(5, "rank 10;");
        faultAt(5, "rank 00000;");
        faultAt(5, "slip 1001;");
        faultAt(5, "slip 10000;");
        faultAt(5, "rank 4294967296;");
        faultAt(5, "rank 4294967297;");
        faultAt(5, "slip 18446744073709551616;");
        faultAt(5, "slip 99999999999999999999999999999999;");
    }

    private static void endsTooEarly() {
        faultAt(0, "");
        faultAt(1, " ");
        faultAt(5, "     ");
        String[] texts = {"add ab 10 2;", "use ab;", "score ab 10;", "drop ab;", "rank 4;", "slip 10;", "fade;"};
        for (String text : texts) {
            int name = text.indexOf(text.contains(" ") ? ' ' : ';');
            for (int n = 1; n < text.length(); n++) {
                String cut = text.substring(0, n);
                faultAt(n < name ? 0 : n, cut);
                faultAt(n < name ? 0 : n + 2, cut + "  ");
                faultAt(5 + (n < name ? 0 : n), "fade;" + cut);
            }
        }
    }

    private static void oneBehindTheOther() {
        BestWords x = new BestWords();
        due("add, drop, add", run(x, "add a 100 1;drop a;add a 50 2;"), 3);
        due("the first is gone", x.of(0, 0), BAD);
        due("the second is there", x.of(1, 0), 50);
        due("score, rank, use, fade", run(x, "score a 201;rank 1;use a;fade;use a;"), 5);
        due("SCORE", x.of(1, 0), 115);
        due("USES", x.of(1, 3), 2);
        due("LAST", x.of(1, 4), 2);
        due("rank behind use", run(x, "rank 0;use a;rank 1;"), 3);
        due("SCORE", x.of(1, 0), 115);
        due("fade of none is done", run(new BestWords(), "fade;rank 0;slip 100;"), 3);
    }

    private static void passedOver() {
        BestWords x = rich();
        due("no such PHRASE", run(x, "use a;score a 1;drop a;use abcde;drop h;"), 0);
        due("the next ones are done", run(x, "use a;slip 5;drop a;rank 2;"), 2);
        due("SLIP", x.told(4), 5);
        due("KIND", x.told(3), 2);
        due("alike", run(x, "add ab 7 7;add b 1 1;add abcdefgh 1 1;"), 0);
        due("SCORE stays", x.of(0, 0), 100);
        due("NUMBERS given", x.told(1), 6);
        due("twice in a text", run(x, "add cc 1 1;add cc 2 2;drop cc;use cc;drop cc;"), 2);
        due("passed over, THE CLOCK stays", x.told(2), 2);
        BestWords full = pairs(40, "hhh");
        due("no room", run(full, "add hhh 1 1;slip 7;add ggg 1 1;"), 1);
        due("room by a drop", run(full, "add hhh 1 1;drop aa;add hhh 1 1;add ggg 1 1;"), 2);
        spelled(full, 40, "hhh");
        BestWords last = given(200, "hhh");
        due("no NUMBER left", run(last, "add hhh 1 1;drop ad;add hhh 1 1;fade;"), 2);
        due("told(0)", last.told(0), 3);
        for (int what = 8; what <= 10; what++)
            due("none counts, told(" + what + ")", x.told(what) + full.told(what) + last.told(what), 0);
    }

    // ---- undo, draws, how calls are refused

    private static void known(String call, ToLongFunction<BestWords> asked, int more) {
        BestWords x = richTyped("aab");
        write(x, "fade;");
        int before = x.told(6);
        asked.applyAsLong(x);
        due(call + ", then told(6)", x.told(6) - before, more);
    }

    private static void whichAreKnown() {
        known("adds", x -> x.adds(1, 1), 1);
        known("use", x -> x.use(0), 1);
        known("score", x -> x.score(0, 1), 1);
        known("drop", x -> x.drop(0), 1);
        known("rank", x -> x.rank(1), 1);
        known("slip", x -> x.slip(1), 1);
        known("fades", x -> x.fades(), 1);
        known("draw", x -> x.draw(1, 1), 1);
        known("runs", x -> x.runs(), 1);
        known("adds, BAD", x -> x.adds(1001, 1), 0);
        known("use, BAD", x -> x.use(2), 0);
        known("score, BAD", x -> x.score(0, 1001), 0);
        known("drop, BAD", x -> x.drop(2), 0);
        known("rank, BAD", x -> x.rank(5), 0);
        known("slip, BAD", x -> x.slip(1001), 0);
        known("draw, BAD", x -> x.draw(1, 10), 0);
        known("adds, NO", x -> x.clear() + x.adds(1, 1), 0);
        known("runs, a FAULT", x -> x.erase() + x.runs(), 0);
        known("type", x -> x.type(1), 0);
        known("rub", x -> x.rub(), 0);
        known("types", x -> x.types(0, 1), 0);
        known("clear", x -> x.clear(), 0);
        known("write", x -> x.write(32), 0);
        known("erase", x -> x.erase(), 0);
        known("undo", x -> x.undo(), -1);
        known("use and undo", x -> x.use(0) + x.undo(), 0);
        known("start", x -> x.start(), -11);
    }

    private static void twelveAreKnown() {
        for (int marks : new int[] {0, 1, 11, 12, 13, 14, 24, 25, 30}) {
            BestWords x = new BestWords();
            for (int i = 1; i <= marks; i++) x.slip(i);
            int known = Math.min(marks, 12);
            due(marks + " marks, told(6)", x.told(6), known);
            for (int i = 1; i <= known; i++) {
                due(marks + " marks, undo() " + i, x.undo(), known - i);
                due(marks + " marks, SLIP", x.told(4), i == marks ? 100 : marks - i);
            }
            due(marks + " marks, one undo() more", x.undo(), NO);
            due(marks + " marks, SLIP", x.told(4), marks > 12 ? marks - 12 : 100);
            x.slip(900);
            x.slip(901);
            due(marks + " marks, known anew", x.undo(), 1);
            due(marks + " marks, SLIP", x.told(4), 900);
            due(marks + " marks, known anew", x.undo(), 0);
        }
    }

    private static void undoneAndMarkedInTurns() {
        BestWords x = new BestWords();
        for (int i = 1; i <= 12; i++) x.slip(i);
        for (int i = 0; i < 5; i++) x.undo();
        for (int i = 101; i <= 106; i++) x.slip(i);
        due("told(6)", x.told(6), 12);
        int[] v = {105, 104, 103, 102, 101, 7, 6, 5, 4, 3, 2, 1};
        for (int i = 0; i < v.length; i++) {
            due("undo() " + i, x.undo(), 11 - i);
            due("SLIP", x.told(4), v[i]);
        }
        due("no more", x.undo(), NO);
    }

    private static void asAheadOfTheLast() {
        BestWords x = rich();
        long first = x.digest();
        x.rank(0);
        x.slip(0);
        x.undo();
        x.undo();
        due("twelve were known, one was forgotten", x.told(6), 10);
        x.slip(40);
        due("all else is as ahead", x.digest(), first);
        x.fades();
        x.use(1);
        run(x, "drop ab;add c 1 1;use c;rank 1;slip 9;");
        x.undo();
        x.undo();
        x.undo();
        due("THE CLOCK runs on", x.told(2), 4);
        int[] scores = {100, 120, 0, 90, 1000, 0};
        for (int p : RICH_NUMBERS) due("SCORE of " + p, x.of(p, 0), scores[p]);
        due("USES", x.of(1, 3), 1);
        due("LAST", x.of(1, 4), 1);
        due("NUMBERS", x.told(1), 6);
        due("KIND", x.told(3), 3);
        due("SLIP", x.told(4), 40);
        x.use(0);
        due("LAST of the next one", x.of(0, 4), 5);
    }

    private static void nothingIsLeftOfIt() {
        String[] texts = {"add hh 1000 3;use hh;", "drop ab;", "add hh 1000 0;drop abc;add a 1000 9;", "fade;slip 0;"};
        for (String text : texts) {
            BestWords x = rich();
            due(text, x.runs() + run(x, text), 1 + text.split(";").length);
            x.undo();
            x.undo();
            sameCompletions(text + " and undo()", x, rich(), RICH_NUMBERS);
        }
    }

    private static void clockRunsOn() {
        BestWords x = new BestWords();
        add(x, "a", 100, 0);
        add(x, "b", 100, 0);
        x.rank(2);
        for (int i = 1; i <= 3; i++) {
            x.use(1);
            x.undo();
            due("told(2)", x.told(2), i);
        }
        x.use(0);
        due("LAST", x.of(0, 4), 4);
        for (int i = 0; i < 3; i++) {
            x.use(1);
            x.undo();
        }
        due("four ago, for all that is taken back", x.use(0), 120);
        type(x, "abc");
        long typed = x.told(5);
        x.undo();
        due("TYPED stays", x.told(5), typed);
        add(x, "ccc", 1, 1);
        x.undo();
        due("TYPED stays empty", x.told(5), 0);
    }

    private static void seeds() {
        BestWords x = new BestWords();
        due("draw(-1, 1)", x.draw(-1, 1), BAD);
        due("draw(1000000, 1)", x.draw(1000000, 1), BAD);
        due("draw(LEAST, 1)", x.draw(LEAST, 1), BAD);
        due("draw(MOST, 1)", x.draw(MOST, 1), BAD);
        due("draw(0, 1)", x.draw(0, 1), 1);
        due("draw(999999, 1)", x.draw(999999, 1), 1);
    }

    private static BigInteger next(BigInteger x) {
        return x.multiply(BigInteger.valueOf(1103515245)).add(BigInteger.valueOf(12345)).mod(BigInteger.valueOf(2147483648L));
    }

    private static int part(BigInteger x, int by, int left) {
        return x.divide(BigInteger.valueOf(by)).mod(BigInteger.valueOf(left)).intValue();
    }

    private static void drawnOnes() {
        int[] lengths = new int[9], letters = new int[9], meanings = new int[11];
        int least = 1000, most = 0;
        for (int i = 0; i < 2100; i++) {
            int seed = i < 2000 ? i : 999999 - i + 2000;
            BestWords x = new BestWords();
            due("draw(" + seed + ", 1)", x.draw(seed, 1), 1);
            BigInteger d = next(BigInteger.valueOf(seed));
            int length = part(d, 65536, 5) + 1;
            due("LETTERS by " + seed, x.of(0, 2), length);
            for (int k = 0; k < length; k++) {
                d = next(d);
                due("LETTER by " + seed, x.letter(0, k), part(d, 65536, 8));
                letters[part(d, 65536, 8)]++;
            }
            d = next(d);
            due("SCORE by " + seed, x.of(0, 0), part(d, 65536, 1001));
            due("MEANING by " + seed, x.of(0, 1), part(d, 1024, 10));
            lengths[length]++;
            meanings[part(d, 1024, 10)]++;
            least = Math.min(least, part(d, 65536, 1001));
            most = Math.max(most, part(d, 65536, 1001));
        }
        for (int n = 1; n <= 5; n++) due("some have " + n + " LETTERS", Math.min(1, lengths[n]), 1);
        for (int n = 0; n <= 7; n++) due("some have LETTER " + n, Math.min(1, letters[n]), 1);
        for (int n = 0; n <= 9; n++) due("some have MEANING " + n, Math.min(1, meanings[n]), 1);
        due("one has the least SCORE", least, 0);
        due("one has the greatest SCORE", most, 1000);
    }

    private static void firstOfRefusals() {
        leaves("BAD, not FULL: type(8)", () -> richTyped("abcdefghabcd"), x -> x.type(8), BAD, AS_BAD);
        leaves("BAD, not NO: adds(1001, 0) of none", () -> richTyped(""), x -> x.adds(1001, 0), BAD, AS_BAD);
        leaves("BAD, not NO: adds(0, 10) of nine", () -> richTyped("abcdefgha"), x -> x.adds(0, 10), BAD, AS_BAD);
        leaves("BAD, not NO: adds(-1, 0) of one alike", () -> richTyped("ab"), x -> x.adds(-1, 0), BAD, AS_BAD);
        leaves("BAD, not FULL: adds(0, -1) with 40", () -> pairs(40, "hhh"), x -> x.adds(0, -1), BAD, AS_BAD);
        leaves("BAD, not FULL: adds(1001, 0), NUMBERS at an end", () -> given(200, "hhh"), x -> x.adds(1001, 0), BAD, AS_BAD);
        leaves("NO, not FULL: adds of none with 40", () -> pairs(40, ""), x -> x.adds(0, 0), NO, AS_NO);
        leaves("NO, not FULL: adds of nine with 40", () -> pairs(40, "abcdefgha"), x -> x.adds(0, 0), NO, AS_NO);
        leaves("NO, not FULL: adds of one alike with 40", () -> pairs(40, "aa"), x -> x.adds(0, 0), NO, AS_NO);
        leaves("NO, not FULL: adds of none, NUMBERS at an end", () -> given(200, ""), x -> x.adds(0, 0), NO, AS_NO);
        leaves("NO, not FULL: adds of nine, NUMBERS at an end", () -> given(200, "aaaaaaaaa"), x -> x.adds(0, 0), NO, AS_NO);
        leaves("NO, not FULL: adds of one alike, NUMBERS at an end", () -> given(200, "aa"), x -> x.adds(0, 0), NO, AS_NO);
        leaves("BAD, not FULL: write(128)", () -> written(rich(), ";".repeat(120)), x -> x.write(128), BAD, AS_BAD);
        leaves("two wrong numbers count once", Trial::rich, x -> x.adds(-1, -1), BAD, AS_BAD);
        leaves("two wrong numbers count once", Trial::rich, x -> x.alike(-1, 2), BAD, AS_BAD);
        leaves("two wrong numbers count once", Trial::rich, x -> x.draw(-1, 0), BAD, AS_BAD);
    }

    private static void faultChangesNothing() {
        faultAt(10, "add c 1 1;x");
        faultAt(12, "use b;use b;fad");
        faultAt(23, "drop ab;rank 1;slip 9; ;");
        faultAt(26, "rank 0;slip 0;drop b;rank 5;");
        faultAt(24, "fade;score ab 0;add c 1 10;");
        leaves("a FAULT with nothing to undo", () -> written(new BestWords(), "add a 1 1;use a"), x -> x.runs(), -25, UNCOUNTED);
        leaves("a FAULT, twelve known", () -> written(marked(), "add c 1 1;use c"), x -> x.runs(), -25, UNCOUNTED);
    }

    private static BestWords marked() {
        BestWords x = rich();
        x.slip(41);
        x.slip(42);
        return x;
    }

    private static void sentencesOfPhrases() {
        sentence("LETTERS are 0 .. 7 (told a .. h in texts).", BoundsOfTerms::letters);
        sentence("PHRASES, 40 at most at a time", BoundsOfTerms::fortyPhrases);
        sentence("have NUMBERS 0 .. 199 as they come, one more each time (given again just by UNDO)", BoundsOfTerms::numbersAsTheyCome);
        sentence("NUMBERS 0 .. 199", BoundsOfTerms::numbersAtAnEnd);
        sentence("1 to 8 LETTERS", BoundsOfTerms::oneToEightLetters);
        sentence("(no two PHRASES alike)", BoundsOfTerms::noTwoAlike);
        sentence("a SCORE (0 .. 1000)", BoundsOfTerms::scores);
        sentence("a MEANING (0 .. 9; 0: none)", BoundsOfTerms::meanings);
        sentence("USES (0 at first), LAST (when it was chosen last; NONE at first).", BoundsOfTerms::usesAndLast);
        sentence("THE CLOCK is 0 at first.", BoundsOfTerms::clockAtFirst);
    }

    private static void sentencesOfRankers() {
        sentence("RANKERS have a KIND, 0 .. 4 (THE RANKER's is 0 at first)", BoundsOfTerms::kinds);
        sentence("when THE CLOCK (1 more by then) is t", BoundsOfTerms::oneMoreByThen);
        sentence("held 0 to 1000 by each KIND: 0 PLAIN: the same.", BoundsOfTerms::plain);
        sentence("1 STEADY (a PLAIN): 10 more than PLAIN.", BoundsOfTerms::steady);
        sentence("2 FRESH (a STEADY): 20 more than STEADY", BoundsOfTerms::fresh);
        sentence("if it was chosen, and LAST is t less 3 or later, else as STEADY.", BoundsOfTerms::freshIfItWasChosen);
        sentence("3 LOYAL (a STEADY): as many more than STEADY as it had USES, 30 at most.", BoundsOfTerms::loyal);
        sentence("4 HOT (a FRESH): its SCORE and twice as much as FRESH's is more than that.", BoundsOfTerms::hot);
        sentence("(USES, LAST as ahead of being chosen.)", BoundsOfTerms::asAhead);
    }

    private static void sentencesOfTyping() {
        sentence("TYPED: 0 to 12 LETTERS (none at first).", BoundsOfTerms::typedTwelve);
        sentence("A PHRASE BEGINS so, if its first LETTERS are TYPED, all of them.", BoundsOfTerms::begins);
        sentence("It is CLOSE, if it does not", BoundsOfTerms::closeIfItDoesNot);
        sentence("some beginning of it (none of its LETTERS, too, or all)", BoundsOfTerms::closeOfNoneOrAll);
        sentence("becomes TYPED by one LETTER more anywhere", BoundsOfTerms::closeByOneMore);
        sentence("one fewer", BoundsOfTerms::closeByOneFewer);
        sentence("or one in place of another.", BoundsOfTerms::closeByAnother);
        sentence("a greater one ahead, of like ones the lesser NUMBER.", BoundsOfTerms::order);
        sentence("BEST: those that BEGIN so, RANK being SCORE.", BoundsOfTerms::bestByScore);
        sentence("Of PHRASES alike in MEANING (but 0) just the first in ORDER is TOLD.", BoundsOfTerms::toldOfAMeaning);
        sentence("NEAR: those that BEGIN so, RANK being SCORE, and those that are CLOSE", BoundsOfTerms::nearOrder);
        sentence("RANK being SCORE less SLIP", BoundsOfTerms::nearBelowNothing);
        sentence("just the first in ORDER is TOLD", BoundsOfTerms::nearTold);
        sentence("SLIP (0 .. 1000; 100 at first)", BoundsOfTerms::slips);
    }

    private static void sentencesOfTexts() {
        sentence("THE TEXT (120 bytes at most) tells ORDERS", BoundsOfTerms::textOf120);
        sentence("each ended by ;", BoundsOfTerms::endedBySemicolon);
        sentence("add WORD SCORE MEANING; use WORD; score WORD SCORE; drop WORD; rank KIND; slip SLIP; fade.", BoundsOfTerms::formsOfOrders);
        sentence("A WORD: 1 to 8 letters a .. h in a row.", BoundsOfTerms::wordsInTexts);
        sentence("NUMBERS: 1 to 4 figures in a row, as told above.", BoundsOfTerms::numbersInTexts);
        sentence("Blanks (32) may stand anywhere but within words and NUMBERS, one at least between letters and letters.", BoundsOfTerms::blanks);
        sentence("FAULT: the place of the first byte of the first word, NUMBER, other byte that can not stand there", BoundsOfTerms::firstFault);
        sentence("(a run of letters is one word, a run of figures one NUMBER: also of one that is too long, too great)", BoundsOfTerms::aRunIsOne);
        sentence("the TEXT's length, if it ends too early (an empty one, too).", BoundsOfTerms::endsTooEarly);
        sentence("ORDERS are done one behind the other", BoundsOfTerms::oneBehindTheOther);
        sentence("one that can not be (no such PHRASE; add: alike, no room, no NUMBER left) is passed over.", BoundsOfTerms::passedOver);
    }

    private static void sentencesOfTheRest() {
        sentence("the last call that is marked U, if it was not refused", BoundsOfTerms::whichAreKnown);
        sentence("(12 at most are known)", BoundsOfTerms::twelveAreKnown);
        sentence("(12 at most are known)", BoundsOfTerms::undoneAndMarkedInTurns);
        sentence("PHRASES with all that is told of them, how many NUMBERS were given, THE RANKER, SLIP as ahead of the last call", BoundsOfTerms::asAheadOfTheLast);
        sentence("PHRASES with all that is told of them", BoundsOfTerms::nothingIsLeftOfIt);
        sentence("THE CLOCK runs on, TYPED stays.", BoundsOfTerms::clockRunsOn);
        sentence("DRAWS by a SEED (0 .. 999999)", BoundsOfTerms::seeds);
        sentence("X becomes X times 1103515245 and 12345, by 2147483648 what is left over.", BoundsOfTerms::drawnOnes);
        sentence("Refused, changing nothing but how often, the first of: BAD -2 a number is not as told; NO -3 as told; FULL -4 as told.", BoundsOfTerms::firstOfRefusals);
        sentence("By a FAULT all stays, nothing counts.", BoundsOfTerms::faultChangesNothing);
    }

    public static void main(String[] args) throws Exception {
        readDocument();
        sentencesOfPhrases();
        sentencesOfRankers();
        sentencesOfTyping();
        sentencesOfTexts();
        sentencesOfTheRest();
        System.out.println(sentences() + " sentences of the terms");
        end();
    }
}
