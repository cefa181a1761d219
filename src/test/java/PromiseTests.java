/** For each promise of the document: ordinary calls, the edges that it names, wrong inputs. */
public final class PromiseTests extends Trial {
    // phrases of two letters, the i-th with the score i
    private static void addPairs(BestWords x, int many) {
        for (int i = 0; i < many; i++) add(x, "" + (char) ('a' + i / 8) + (char) ('a' + i % 8), i, 0);
    }

    private static void newObject() {
        BestWords x = new BestWords();
        int[] first = {0, 0, 0, 0, 100, 0, 0, 0, 0, 0, 0};
        for (int i = 0; i < first.length; i++) due("1 told(" + i + ")", x.told(i), first[i]);
        long h = 2003;
        for (int v : first) h = 31 * h + v;
        due("1 digest", x.digest(), h);
        BestWords other = new BestWords();
        other.type(3);
        due("1 a second object begins empty", new BestWords().told(5), 0);
    }

    private static void start() {
        BestWords x = new BestWords();
        long first = x.digest();
        add(x, "ab", 5, 1);
        x.use(0);
        x.rank(3);
        x.slip(7);
        type(x, "abc");
        x.write('a');
        x.of(9, 9);
        type(x, "");
        x.rub();
        for (int i = 0; i < 13; i++) x.type(0);
        due("2 told(10) ahead", x.told(10), 1);
        due("2 start", x.start(), 1);
        due("2 digest", x.digest(), first);
        due("2 undo behind start", x.undo(), NO);
        add(x, "b", 1, 0);
        due("2 NUMBERS begin anew", x.told(1), 1);
        due("2 of(0, 4)", x.of(0, 4), NONE);
        x.use(0);
        due("2 THE CLOCK begins anew", x.of(0, 4), 1);
    }

    private static void type() {
        BestWords x = new BestWords();
        due("3 type(-1)", x.type(-1), BAD);
        due("3 type(8)", x.type(8), BAD);
        due("3 type(MOST)", x.type(MOST), BAD);
        due("3 type(LEAST)", x.type(LEAST), BAD);
        for (int i = 0; i < 12; i++) due("3 type " + i, x.type(i % 8), i + 1);
        due("3 type 13th", x.type(0), FULL);
        due("3 BAD ahead of FULL", x.type(8), BAD);
        due("3 told(5)", x.told(5), 12);
        due("3 told(8)", x.told(8), 5);
        due("3 told(10)", x.told(10), 1);
    }

    private static void rub() {
        BestWords x = new BestWords();
        due("4 rub none", x.rub(), NO);
        due("4 told(9)", x.told(9), 1);
        add(x, "abc", 1, 0);
        type(x, "abca");
        due("4 rub", x.rub(), 3);
        due("4 the last is gone", x.find(), 0);
        due("4 rub", x.rub(), 2);
        due("4 rub", x.rub(), 1);
        due("4 rub", x.rub(), 0);
        due("4 rub", x.rub(), NO);
        for (int i = 0; i < 12; i++) x.type(7);
        due("4 rub of 12", x.rub(), 11);
    }

    private static void types() {
        BestWords x = new BestWords();
        add(x, "hgfedcba", 1, 0);
        add(x, "hgf", 1, 0);
        type(x, "aaaa");
        due("5 types(0, 3)", x.types(0, 3), 3);
        due("5 it is hgf", x.find(), 1);
        due("5 types(0, 8)", x.types(0, 8), 8);
        due("5 it is all", x.find(), 0);
        due("5 types(0, 9)", x.types(0, 9), BAD);
        due("5 types(1, 4)", x.types(1, 4), BAD);
        due("5 types(0, -1)", x.types(0, -1), BAD);
        due("5 types(2, 0)", x.types(2, 0), BAD);
        due("5 types(-1, 0)", x.types(-1, 0), BAD);
        due("5 types(0, MOST)", x.types(0, MOST), BAD);
        due("5 all stayed", x.find(), 0);
        due("5 types(0, 0)", x.types(0, 0), 0);
        due("5 told(5)", x.told(5), 0);
        due("5 told(6)", x.told(6), 2);
    }

    private static void clear() {
        BestWords x = new BestWords();
        due("6 clear none", x.clear(), 0);
        for (int i = 0; i < 12; i++) x.type(1);
        due("6 clear", x.clear(), 12);
        due("6 told(5)", x.told(5), 0);
    }

    private static void adds() {
        BestWords x = new BestWords();
        due("7 adds none typed", x.adds(1, 1), NO);
        due("7 BAD ahead of NO", x.adds(1001, 1), BAD);
        due("7 score -1", x.adds(-1, 1), BAD);
        due("7 meaning 10", x.adds(1, 10), BAD);
        due("7 meaning -1", x.adds(1, -1), BAD);
        due("7 told(6) of refused", x.told(6), 0);
        due("7 first", add(x, "abcdefgh", 1000, 9), 0);
        due("7 TYPED is empty", x.told(5), 0);
        due("7 second", add(x, "abcdefg", 0, 0), 1);
        due("7 more than 8", add(x, "abcdefgha", 1, 1), NO);
        due("7 TYPED stays", x.told(5), 9);
        due("7 alike", add(x, "abcdefg", 1, 1), NO);
        due("7 told(6)", x.told(6), 2);
        due("7 score", x.of(0, 0), 1000);
        due("7 meaning", x.of(0, 1), 9);
        x.start();
        addPairs(x, 40);
        due("7 told(0)", x.told(0), 40);
        due("7 the 41st", add(x, "hh", 1, 1), FULL);
        due("7 NO ahead of FULL", add(x, "aa", 1, 1), NO);
        due("7 told(10)", x.told(10), 1);
        x.drop(0);
        due("7 a number more", add(x, "aa", 1, 1), 40);
        due("7 undo", x.undo(), 11);
        due("7 the number anew", add(x, "ab", 1, 1), NO);
        due("7 the number anew", add(x, "ah", 1, 1), NO);
        due("7 the number anew", add(x, "hh", 1, 1), 40);
        due("7 NUMBERS at an end", endOfNumbers(), FULL);
    }

    private static int endOfNumbers() {
        BestWords x = new BestWords();
        String text = "add a 1 1;drop a;";
        for (int i = 0; i < 7 * text.length(); i++) x.write(text.charAt(i % text.length()));
        for (int i = 0; i < 28; i++) due("7 seven come and go", x.runs(), 14);
        due("7 told(1)", x.told(1), 196);
        add(x, "aa", 1, 0);
        add(x, "ab", 1, 0);
        add(x, "ac", 1, 0);
        due("7 the last number", add(x, "ad", 1, 0), 199);
        due("7 none came", x.draw(5, 9), 0);
        due("7 passed over", run(x, "add b 1 1;"), 0);
        int answer = add(x, "ae", 1, 0);
        due("7 TYPED stays", x.told(5), 2);
        x.undo();
        x.undo();
        x.undo();
        due("7 given again", x.told(1), 199);
        due("7 given again", x.adds(1, 0), 199);
        return answer;
    }

    private static void of() {
        BestWords x = new BestWords();
        add(x, "abc", 77, 4);
        int[] v = {77, 4, 3, 0, NONE};
        for (int i = 0; i < 5; i++) due("8 of(0, " + i + ")", x.of(0, i), v[i]);
        x.use(0);
        x.use(0);
        due("8 USES", x.of(0, 3), 2);
        due("8 LAST", x.of(0, 4), 2);
        due("8 of(0, 5)", x.of(0, 5), BAD);
        due("8 of(0, -1)", x.of(0, -1), BAD);
        due("8 of(1, 0)", x.of(1, 0), BAD);
        due("8 of(-1, 0)", x.of(-1, 0), BAD);
        due("8 of(200, 0)", x.of(200, 0), BAD);
        due("8 of(MOST, MOST)", x.of(MOST, MOST), BAD);
        x.drop(0);
        due("8 of one that is gone", x.of(0, 0), BAD);
        due("8 told(8)", x.told(8), 7);
    }

    private static void letter() {
        BestWords x = new BestWords();
        add(x, "habgc", 1, 1);
        int[] v = {7, 0, 1, 6, 2, NONE, NONE, NONE, NONE};
        for (int i = 0; i < v.length; i++) due("9 letter(0, " + i + ")", x.letter(0, i), v[i]);
        int[] far = {12, 13, 15, 16, 17, 32, 64, 1 << 30, MOST};
        for (int k : far) due("9 letter(0, " + k + ")", x.letter(0, k), NONE);
        due("9 letter(0, -1)", x.letter(0, -1), BAD);
        due("9 letter(0, LEAST)", x.letter(0, LEAST), BAD);
        due("9 letter(1, 0)", x.letter(1, 0), BAD);
        due("9 told(8)", x.told(8), 3);
    }

    private static void use() {
        BestWords x = new BestWords();
        due("10 use(0)", x.use(0), BAD);
        due("10 THE CLOCK", x.told(2), 0);
        add(x, "a", 100, 0);
        add(x, "b", 995, 0);
        due("10 PLAIN", x.use(0), 100);
        due("10 THE CLOCK", x.told(2), 1);
        x.rank(1);
        due("10 STEADY", x.use(0), 110);
        due("10 STEADY held", x.use(1), 1000);
        due("10 use(-1)", x.use(-1), BAD);
        due("10 use(2)", x.use(2), BAD);
        due("10 THE CLOCK", x.told(2), 3);
        due("10 told(6)", x.told(6), 6);
        due("10 undo", x.undo(), 5);
        due("10 SCORE again", x.of(1, 0), 995);
        due("10 USES again", x.of(1, 3), 0);
        due("10 LAST again", x.of(1, 4), NONE);
        due("10 THE CLOCK runs on", x.told(2), 3);
        fresh();
        loyal();
        hot();
        lastHour();
    }

    private static void fresh() {
        BestWords x = new BestWords();
        add(x, "a", 100, 0);
        add(x, "b", 0, 0);
        add(x, "c", 975, 0);
        x.rank(2);
        due("10 FRESH never chosen", x.use(0), 110);
        due("10 FRESH one ago", x.use(0), 140);
        x.use(1);
        x.use(1);
        due("10 FRESH three ago", x.use(0), 170);
        x.use(1);
        x.use(1);
        x.use(1);
        due("10 FRESH four ago", x.use(0), 180);
        x.use(2);
        due("10 FRESH held", x.use(2), 1000);
    }

    private static void loyal() {
        BestWords x = new BestWords();
        add(x, "a", 100, 0);
        x.rank(3);
        due("10 LOYAL no USES", x.use(0), 110);
        due("10 LOYAL 1", x.use(0), 121);
        due("10 LOYAL 2", x.use(0), 133);
        x.rank(0);
        for (int i = 0; i < 26; i++) x.use(0);
        x.rank(3);
        due("10 LOYAL 29", x.use(0), 172);
        due("10 LOYAL 30", x.use(0), 212);
        due("10 LOYAL 31", x.use(0), 252);
        x.score(0, 970);
        due("10 LOYAL held", x.use(0), 1000);
    }

    private static void hot() {
        BestWords x = new BestWords();
        add(x, "a", 100, 0);
        x.rank(4);
        due("10 HOT never chosen", x.use(0), 120);
        due("10 HOT lately", x.use(0), 180);
        x.score(0, 945);
        due("10 HOT held", x.use(0), 1000);
        x.score(0, 980);
        due("10 HOT on a held FRESH", x.use(0), 1000);
        due("10 HOT at the end", x.use(0), 1000);
    }

    // further than 512 calls, where the document leaves the answers free: the clock is held all the same
    private static void lastHour() {
        BestWords x = new BestWords();
        add(x, "a", 0, 0);
        x.rank(2);
        for (int i = 0; i < 10005; i++) x.use(0);
        due("10 THE CLOCK's end", x.told(2), 9999);
        due("10 LAST at the clock's end", x.of(0, 4), 9999);
        due("10 USES", x.of(0, 3), 10005);
    }

    private static void score() {
        BestWords x = new BestWords();
        add(x, "a", 100, 0);
        due("11 score", x.score(0, 1000), 100);
        due("11 score", x.score(0, 0), 1000);
        due("11 score(0, 1001)", x.score(0, 1001), BAD);
        due("11 score(0, -1)", x.score(0, -1), BAD);
        due("11 score(1, 0)", x.score(1, 0), BAD);
        due("11 told(6)", x.told(6), 3);
        due("11 of", x.of(0, 0), 0);
        due("11 USES", x.of(0, 3), 0);
        due("11 undo", x.undo(), 2);
        due("11 of", x.of(0, 0), 1000);
    }

    private static void drop() {
        BestWords x = new BestWords();
        add(x, "a", 10, 0);
        add(x, "ab", 20, 3);
        add(x, "abc", 30, 0);
        x.use(1);
        due("12 drop", x.drop(1), 20);
        due("12 drop again", x.drop(1), BAD);
        due("12 drop(3)", x.drop(3), BAD);
        due("12 drop(-1)", x.drop(-1), BAD);
        due("12 told(0)", x.told(0), 2);
        due("12 told(1)", x.told(1), 3);
        due("12 the next one stays", x.of(2, 0), 30);
        due("12 its letters", x.letter(2, 2), 2);
        due("12 a new number", add(x, "ab", 5, 0), 3);
        x.undo();
        due("12 undo", x.undo(), 4);
        due("12 it is back", x.of(1, 1), 3);
        due("12 USES, too", x.of(1, 3), 1);
        due("12 LAST, too", x.of(1, 4), 1);
    }

    private static void rank() {
        BestWords x = new BestWords();
        for (int i = 1; i <= 4; i++) due("13 rank(" + i + ")", x.rank(i), i - 1);
        due("13 rank(5)", x.rank(5), BAD);
        due("13 rank(-1)", x.rank(-1), BAD);
        due("13 rank(4) again", x.rank(4), 4);
        due("13 told(6)", x.told(6), 5);
        x.undo();
        x.undo();
        due("13 told(3)", x.told(3), 3);
        due("13 rank(0)", x.rank(0), 3);
    }

    private static void slip() {
        BestWords x = new BestWords();
        due("14 slip(0)", x.slip(0), 100);
        due("14 slip(1000)", x.slip(1000), 0);
        due("14 slip(1001)", x.slip(1001), BAD);
        due("14 slip(-1)", x.slip(-1), BAD);
        due("14 told(4)", x.told(4), 1000);
        due("14 undo", x.undo(), 1);
        due("14 told(4)", x.told(4), 0);
    }

    private static void fades() {
        BestWords x = new BestWords();
        due("15 fades none", x.fades(), 0);
        due("15 told(6)", x.told(6), 1);
        add(x, "a", 1000, 0);
        add(x, "b", 7, 0);
        add(x, "c", 1, 0);
        due("15 fades", x.fades(), 3);
        due("15 of a", x.of(0, 0), 500);
        due("15 of b", x.of(1, 0), 3);
        due("15 of c", x.of(2, 0), 0);
        x.undo();
        due("15 undo", x.of(1, 0), 7);
    }

    private static void draw() {
        BestWords x = new BestWords();
        int[][] wrongs = {{-1, 1}, {1000000, 1}, {0, 0}, {0, 10}, {0, -1}, {MOST, 1}, {0, LEAST}};
        for (int[] w : wrongs) due("16 draw(" + w[0] + ", " + w[1] + ")", x.draw(w[0], w[1]), BAD);
        type(x, "abc");
        due("16 draw", x.draw(999999, 1), 1);
        long d = drawn(999999);
        int length = (int) (d / 65536 % 5 + 1);
        due("16 how many letters", x.of(0, 2), length);
        for (int k = 0; k < length; k++) {
            d = drawn(d);
            due("16 letter " + k, x.letter(0, k), d / 65536 % 8);
        }
        d = drawn(d);
        due("16 SCORE", x.of(0, 0), d / 65536 % 1001);
        due("16 MEANING", x.of(0, 1), d / 1024 % 10);
        due("16 the same again", x.draw(999999, 1), 0);
        due("16 TYPED stays", x.told(5), 3);
        due("16 U", x.told(6), 2);
        due("16 told(8)", x.told(8), 7);
        x.undo();
        due("16 undo", x.undo(), 0);
        due("16 none", x.told(0), 0);
        due("16 the least seed, the most times", x.draw(0, 9), 9);
        x.start();
        addPairs(x, 40);
        due("16 no room", x.draw(1, 9), 0);
        due("16 not FULL", x.told(10), 0);
    }

    private static long drawn(long x) {
        return Math.floorMod(x * 1103515245L + 12345L, 2147483648L);
    }

    private static void undo() {
        BestWords x = new BestWords();
        due("17 undo none", x.undo(), NO);
        due("17 told(9)", x.told(9), 1);
        for (int i = 1; i <= 20; i++) x.slip(i);
        due("17 told(6)", x.told(6), 12);
        for (int i = 1; i <= 12; i++) {
            due("17 undo " + i, x.undo(), 12 - i);
            due("17 SLIP " + i, x.told(4), 20 - i);
        }
        due("17 undo the 13th", x.undo(), NO);
        due("17 SLIP", x.told(4), 8);
        type(x, "ab");
        x.adds(5, 0);
        type(x, "hhh");
        x.write('x');
        x.undo();
        due("17 TYPED stays", x.told(5), 3);
        due("17 THE TEXT stays", x.told(7), 1);
        due("17 NUMBERS", x.told(1), 0);
        x.rank(9);
        due("17 a refused call is none", x.told(6), 0);
        due("17 a question is none", x.best(0), FEWER);
        due("17 undo", x.undo(), NO);
    }

    private static BestWords family() {
        BestWords x = new BestWords();
        add(x, "ab", 100, 3);     // 0
        add(x, "abc", 120, 3);    // 1
        add(x, "abcd", 90, 0);    // 2
        add(x, "ba", 100, 0);     // 3
        add(x, "abd", 90, 0);     // 4
        add(x, "h", 1000, 3);     // 5
        return x;
    }

    private static void best() {
        BestWords x = family();
        due("18 how many", x.best(NONE), 4);
        int[] all = {5, 3, 2, 4, FEWER, FEWER};
        for (int k = 0; k < all.length; k++) due("18 best(" + k + ")", x.best(k), all[k]);
        type(x, "ab");
        int[] some = {1, 2, 4, FEWER};
        for (int k = 0; k < some.length; k++) due("18 ab best(" + k + ")", x.best(k), some[k]);
        due("18 best(MOST)", x.best(MOST), FEWER);
        due("18 told(8)", x.told(8), 0);
        due("18 best(-2)", x.best(-2), BAD_PLACE);
        due("18 best(LEAST)", x.best(LEAST), BAD_PLACE);
        due("18 told(8)", x.told(8), 2);
        type(x, "abcdabcdabcd");
        due("18 none", x.best(NONE), 0);
        due("18 none", x.best(0), FEWER);
        type(x, "");
        x.score(1, 100);
        x.drop(5);
        due("18 like ones, alike in meaning", x.best(0), 0);
        due("18 like ones", x.best(1), 3);
    }

    private static void near() {
        BestWords x = family();
        type(x, "ac");
        due("19 how many", x.near(NONE), 3);
        due("19 near(0)", x.near(0), 1);
        due("19 near(1)", x.near(1), 2);
        due("19 near(2)", x.near(2), 4);
        due("19 near(3)", x.near(3), FEWER);
        due("19 near(MOST)", x.near(MOST), FEWER);
        due("19 near(-2)", x.near(-2), BAD_PLACE);
        due("19 near(LEAST)", x.near(LEAST), BAD_PLACE);
        due("19 told(8)", x.told(8), 2);
        type(x, "abd");
        x.slip(30);
        due("19 90 less none: 4 and 1 (120 less 30)", x.near(0), 1);
        due("19 then the greater number", x.near(1), 4);
        x.slip(31);
        due("19 SLIP 31", x.near(0), 4);
        x.slip(1000);
        due("19 below 0 all are told", x.near(NONE), 3);
        due("19 below 0", x.near(1), 1);
        due("19 below 0", x.near(2), 2);
    }

    private static void top() {
        BestWords x = family();
        due("20 top", x.top(), 1000);
        type(x, "ab");
        due("20 ab", x.top(), 120);
        type(x, "abcd");
        due("20 abcd", x.top(), 90);
        x.score(2, 0);
        due("20 a score of 0", x.top(), 0);
        type(x, "abcda");
        due("20 none", x.top(), NONE);
        due("20 no phrases", new BestWords().top(), NONE);
    }

    private static void under() {
        BestWords x = family();
        due("21 under", x.under(), 6);
        type(x, "ab");
        due("21 ab", x.under(), 4);
        type(x, "abcd");
        due("21 abcd", x.under(), 1);
        type(x, "abcdh");
        due("21 abcdh", x.under(), 0);
    }

    private static void close() {
        isCloseWhen("abcd", "", 0);
        isCloseWhen("abcd", "abc", 0);
        isCloseWhen("abcd", "h", 1);
        isCloseWhen("abcd", "b", 1);
        isCloseWhen("abcd", "hab", 1);
        isCloseWhen("abcd", "ahb", 1);
        isCloseWhen("abcd", "abh", 1);
        isCloseWhen("abcd", "abcdh", 1);
        isCloseWhen("abcd", "abcdhh", 0);
        isCloseWhen("abcd", "habcd", 1);
        isCloseWhen("abcd", "bcd", 1);
        isCloseWhen("abcd", "acd", 1);
        isCloseWhen("abcd", "hbcd", 1);
        isCloseWhen("abcd", "abch", 1);
        isCloseWhen("abcd", "ba", 1);
        isCloseWhen("abcd", "bad", 0);
        isCloseWhen("abcd", "hhcd", 0);
        isCloseWhen("abcd", "hh", 0);
        isCloseWhen("a", "hh", 0);
        isCloseWhen("a", "ha", 1);
        isCloseWhen("a", "ah", 1);
        isCloseWhen("aaaaaaaa", "aaaaaaaaa", 1);
        isCloseWhen("aaaaaaaa", "aaaaaaaaaa", 0);
        isCloseWhen("aaaaaaaa", "aaaaaaaaaaaa", 0);
        isCloseWhen("abcdefgh", "bcdefgh", 1);
        isCloseWhen("abcdefgh", "aabcdefgh", 1);
        isCloseWhen("abab", "aabb", 0);
        isCloseWhen("aab", "ab", 1);
        BestWords x = family();
        type(x, "ac");
        due("22 close, TOLD or not", x.close(), 4);
    }

    private static void isCloseWhen(String word, String typed, int want) {
        BestWords x = new BestWords();
        add(x, word, 500, 0);
        type(x, typed);
        due("22 " + word + " by " + typed, x.close(), want);
        due("19 " + word + " by " + typed, x.near(NONE), word.startsWith(typed) ? 1 : want);
    }

    private static void ahead() {
        BestWords x = family();
        due("23 ahead", x.ahead(), 7);
        type(x, "ab");
        due("23 ab", x.ahead(), 2);
        x.score(1, 90);
        x.score(2, 80);
        due("23 like ones: the lesser number", x.ahead(), 2);
        x.score(1, 89);
        due("23 abd", x.ahead(), 3);
        type(x, "abcd");
        due("23 no more letters", x.ahead(), NONE);
        type(x, "hh");
        due("23 none", x.ahead(), NONE);
        type(x, "aaaaaaaaaaaa");
        due("23 none", x.ahead(), NONE);
    }

    private static void common() {
        BestWords x = family();
        due("24 common", x.common(), 0);
        type(x, "a");
        due("24 a", x.common(), 1);
        type(x, "ab");
        due("24 ab", x.common(), 0);
        type(x, "b");
        due("24 b", x.common(), 1);
        type(x, "abc");
        due("24 abc", x.common(), 0);
        type(x, "c");
        due("24 none", x.common(), NONE);
        x.start();
        add(x, "abcdefgh", 1, 1);
        due("24 one alone", x.common(), 8);
        add(x, "abcdeaaa", 1, 1);
        due("24 two", x.common(), 5);
    }

    private static void find() {
        BestWords x = family();
        due("25 nothing typed", x.find(), NONE);
        type(x, "ab");
        due("25 ab", x.find(), 0);
        type(x, "abcd");
        due("25 abcd", x.find(), 2);
        type(x, "abcda");
        due("25 abcda", x.find(), NONE);
        type(x, "a");
        due("25 a", x.find(), NONE);
        x.drop(3);
        type(x, "ba");
        due("25 one that is gone", x.find(), NONE);
    }

    private static void keys() {
        BestWords x = family();
        int[] v = {NONE, 1, 4, 1, 3, 0};
        for (int p = 0; p < v.length; p++) due("26 keys(" + p + ")", x.keys(p), v[p]);
        due("26 keys(6)", x.keys(6), BAD);
        due("26 keys(-1)", x.keys(-1), BAD);
        type(x, "hhh");
        due("26 TYPED does not matter", x.keys(2), 4);
        due("26 TYPED stays", x.told(5), 3);
        due("26 told(8)", x.told(8), 2);
    }

    private static void saved() {
        BestWords x = family();
        due("27 saved", x.saved(), 2 + 0 + 1 + 0 + 1);
        due("27 none", new BestWords().saved(), 0);
        x.score(2, 1000);
        due("27 saved", x.saved(), 3 + 1 + 1);
    }

    private static void twins() {
        BestWords x = family();
        due("28 twins(0)", x.twins(0), 2);
        due("28 MEANING 0", x.twins(2), 0);
        x.drop(5);
        due("28 twins(1)", x.twins(1), 1);
        due("28 one that is gone", x.twins(5), BAD);
        due("28 twins(-1)", x.twins(-1), BAD);
    }

    private static void alike() {
        BestWords x = family();
        due("29 alike(0, 2)", x.alike(0, 2), 2);
        due("29 alike(2, 1)", x.alike(2, 1), 3);
        due("29 alike(1, 4)", x.alike(1, 4), 2);
        due("29 alike(0, 3)", x.alike(0, 3), 0);
        due("29 alike(2, 2)", x.alike(2, 2), 4);
        due("29 alike(0, 6)", x.alike(0, 6), BAD);
        due("29 alike(6, 0)", x.alike(6, 0), BAD);
        due("29 alike(-1, -1)", x.alike(-1, -1), BAD);
        due("29 told(8)", x.told(8), 3);
    }

    private static void write() {
        BestWords x = new BestWords();
        due("30 write(-1)", x.write(-1), BAD);
        due("30 write(128)", x.write(128), BAD);
        for (int i = 0; i < 120; i++) due("30 write", x.write(i % 2 * 127), i + 1);
        due("30 write the 121st", x.write(0), FULL);
        due("30 BAD ahead of FULL", x.write(128), BAD);
        due("30 told(7)", x.told(7), 120);
        due("30 told(8)", x.told(8), 3);
    }

    private static void erase() {
        BestWords x = new BestWords();
        due("31 erase none", x.erase(), 0);
        x.write('a');
        x.write('b');
        due("31 erase", x.erase(), 2);
        due("31 told(7)", x.told(7), 0);
        due("31 runs", x.runs(), -10);
    }

    private static void runs() {
        BestWords x = new BestWords();
        due("32 add", run(x, "add bad 9 2;"), 1);
        due("32 THE TEXT stays", x.told(7), 12);
        due("32 again, passed over", x.runs(), 0);
        due("32 U all the same", x.told(6), 2);
        due("32 not counted as NO", x.told(9), 0);
        due("32 many", run(x, " add a1000 0;use a ; use b;score bad0010;rank4;use bad;slip 7;fade;drop a; "), 8);
        due("32 SCORE", x.of(0, 0), 15);
        due("32 THE CLOCK", x.told(2), 2);
        due("32 KIND", x.told(3), 4);
        due("32 SLIP", x.told(4), 7);
        due("32 told(0)", x.told(0), 1);
        due("32 told(1)", x.told(1), 2);
        due("32 one undo for all", x.undo(), 2);
        due("32 SCORE again", x.of(0, 0), 9);
        due("32 KIND again", x.told(3), 0);
        due("32 SLIP again", x.told(4), 100);
        due("32 NUMBERS again", x.told(1), 1);
        due("32 THE CLOCK runs on", x.told(2), 2);
        due("32 no such phrase", run(x, "use c;drop c;score c 5;"), 0);
        due("32 the longest", run(x, "fade;".repeat(24)), 24);
        due("32 a word of eight, an order's name", run(x, "add abcdefgh 1 1;add fade 0000 0009;drop fade;"), 3);
        String[] texts = {"", " ", "a", "ad", "add", "addab 1 1;", "add ab", "add ab 1", "add ab 1 1", "add ab 11;", "add ab 1 10;",
            "add ab 1001 1;", "add ab 00001 1;", "add abi 1 1;", "add abcdefgha 1 1;", "add 1 1;", "fade", "fade;;", "fade;x",
            "fade 1;", "rank 5;", "rank a;", "slip 1001;", "use ab use cd;", "use aB;", "Use a;", "fade;\t", ";", "5", "usea;",
            "use a;  fade", "fade; drop a 7;", "score a;", "rank 3 3;", "fad e;", "slip 1 0;", "useA a;", "use a,;"};
        int[] faults = {0, 1, 0, 0, 3, 0, 6, 8, 10, 9, 9,
            7, 7, 4, 4, 4, 4, 5, 5,
            5, 5, 5, 5, 7, 5, 0, 5, 0, 0, 0,
            12, 13, 7, 7, 0, 7, 3, 5};
        x.erase();
        long before = x.digest();
        for (int i = 0; i < texts.length; i++) due("32 FAULT of '" + texts[i] + "'", run(x, texts[i]), -10 - faults[i]);
        x.erase();
        due("32 FAULTS change nothing", x.digest(), before);
        x.start();
        due("32 a FAULT at the end does nothing", run(x, "add a 1 1;use a;x"), -26);
        due("32 told(0)", x.told(0), 0);
        due("32 told(2)", x.told(2), 0);
        due("32 told(6)", x.told(6), 0);
        due("32 nothing counts", x.told(8) + x.told(9) + x.told(10), 0);
        addPairs(x, 40);
        due("32 no room", run(x, "add hhh 1 1;drop aa;add hhh 1 1;"), 2);
        due("32 not counted as FULL", x.told(10), 0);
    }

    private static void told() {
        BestWords x = family();
        x.use(0);
        x.use(1);
        x.rank(2);
        x.slip(9);
        type(x, "abc");
        x.write('z');
        x.rank(7);
        x.rank(8);
        x.told(11);
        x.told(-1);
        x.told(LEAST);
        x.undo();
        x.drop(0);
        type(x, "");
        x.rub();
        x.adds(1, 1);
        type(x, "aaaaaaaaaaaaa");
        int[] v = {5, 6, 2, 2, 100, 12, 10, 1, 5, 2, 1};
        for (int i = 0; i < v.length; i++) due("33 told(" + i + ")", x.told(i), v[i]);
        due("33 told(11)", x.told(11), BAD);
        due("33 it is counted", x.told(8), 6);
    }

    private static void digest() {
        BestWords x = new BestWords();
        add(x, "ab", 100, 3);
        add(x, "h", 1, 0);
        x.use(1);
        x.drop(0);
        type(x, "cb");
        x.of(0, 0);
        int[] values = {1, 2, 1, 0, 100, 2, 4, 0, 1, 0, 0, 1, 1, 0, 1, 1, 1, 7, 2, 1};
        long h = 2003;
        for (int v : values) h = 31 * h + v;
        due("34 digest", x.digest(), h);
        due("34 it changes nothing", x.digest(), h);
        x.undo();
        int[] again = {2, 2, 1, 0, 100, 2, 3, 0, 1, 0, 0, 0, 100, 3, 2, 0, -1, 0, 1, 1, 1, 0, 1, 1, 1, 7, 2, 1};
        h = 2003;
        for (int v : again) h = 31 * h + v;
        due("34 digest with LAST none", x.digest(), h);
    }

    public static void main(String[] args) {
        newObject();
        start();
        type();
        rub();
        types();
        clear();
        adds();
        of();
        letter();
        use();
        score();
        drop();
        rank();
        slip();
        fades();
        draw();
        undo();
        best();
        near();
        top();
        under();
        close();
        ahead();
        common();
        find();
        keys();
        saved();
        twins();
        alike();
        write();
        erase();
        runs();
        told();
        digest();
        end();
    }
}
