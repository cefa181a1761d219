/**
 * Beginnings of words, and the best phrases that may be meant by them.
 * The numbered promises that this class keeps stand in the project's document.
 */
public final class BestWords {
    public static final int NONE = -1, BAD = -2, NO = -3, FULL = -4;

    private static final int NOT_SO_MANY = -5, BAD_PLACE = -10, FAULT_BASE = -10;
    private static final int MOST_LETTERS = 8, MOST_TYPED = 12, MOST_PHRASES = 40, MOST_NUMBERS = 200;
    private static final int MOST_SCORE = 1000, MOST_MEANING = 9, MOST_KIND = 4, MOST_SLIP = 1000;
    private static final int FIRST_SLIP = 100, MOST_CLOCK = 9999, MOST_UNDO = 12, MOST_BYTES = 120;
    private static final int LAST_LETTER = 7, LAST_OF = 4, LAST_TOLD = 10, LAST_BYTE = 127;
    private static final int MOST_SEED = 999999, MOST_DRAWS = 9, DRAWN_LENGTHS = 5;

    private final Book book = new Book();
    private final Past past = new Past();
    private final Listing listing = new Listing();
    private final Orders orders = new Orders();
    private long typed = 0L;
    private int clock = 0;
    private int bads = 0;
    private int noes = 0;
    private int fulls = 0;

    public BestWords() {
    }

    // ---- typing

    public int start() {
        book.makeEmpty();
        past.forget();
        orders.makeEmpty();
        typed = 0L;
        clock = 0;
        bads = 0;
        noes = 0;
        fulls = 0;
        return 1;
    }

    public int type(int letter) {
        if (!isWithin(letter, 0, LAST_LETTER)) {
            return refuseBad();
        }
        if (Spelling.lengthOf(typed) >= MOST_TYPED) {
            return refuseFull();
        }
        typed = Spelling.longer(typed, letter);
        return Spelling.lengthOf(typed);
    }

    public int rub() {
        int length = Spelling.lengthOf(typed);
        if (length == 0) {
            return refuseNo();
        }
        typed = Spelling.beginning(typed, length - 1);
        return length - 1;
    }

    public int types(int p, int n) {
        int slot = book.slotOf(p);
        if (slot == NONE || !isWithin(n, 0, Spelling.lengthOf(book.words[slot]))) {
            return refuseBad();
        }
        typed = Spelling.beginning(book.words[slot], n);
        return n;
    }

    public int clear() {
        int length = Spelling.lengthOf(typed);
        typed = 0L;
        return length;
    }

    // ---- phrases

    public int adds(int score, int meaning) {
        if (!isWithin(score, 0, MOST_SCORE) || !isWithin(meaning, 0, MOST_MEANING)) {
            return refuseBad();
        }
        if (!isWithin(Spelling.lengthOf(typed), 1, MOST_LETTERS) || book.slotSpelled(typed) != NONE) {
            return refuseNo();
        }
        if (!book.hasRoom()) {
            return refuseFull();
        }
        past.remember(book);
        int number = book.append(typed, score, meaning);
        typed = 0L;
        return number;
    }

    public int of(int p, int what) {
        int slot = book.slotOf(p);
        if (slot == NONE || !isWithin(what, 0, LAST_OF)) {
            return refuseBad();
        }
        return book.detail(slot, what);
    }

    public int letter(int p, int k) {
        int slot = book.slotOf(p);
        if (slot == NONE || k < 0) {
            return refuseBad();
        }
        if (k >= Spelling.lengthOf(book.words[slot])) {
            return NONE;
        }
        return Spelling.letterAt(book.words[slot], k);
    }

    public int use(int p) {
        int slot = book.slotOf(p);
        if (slot == NONE) {
            return refuseBad();
        }
        past.remember(book);
        return choose(slot);
    }

    public int score(int p, int v) {
        int slot = book.slotOf(p);
        if (slot == NONE || !isWithin(v, 0, MOST_SCORE)) {
            return refuseBad();
        }
        past.remember(book);
        int before = book.scores[slot];
        book.scores[slot] = v;
        return before;
    }

    public int drop(int p) {
        int slot = book.slotOf(p);
        if (slot == NONE) {
            return refuseBad();
        }
        past.remember(book);
        int before = book.scores[slot];
        book.takeOut(slot);
        return before;
    }

    public int rank(int kind) {
        if (!isWithin(kind, 0, MOST_KIND)) {
            return refuseBad();
        }
        past.remember(book);
        int before = book.kind;
        book.kind = kind;
        return before;
    }

    public int slip(int v) {
        if (!isWithin(v, 0, MOST_SLIP)) {
            return refuseBad();
        }
        past.remember(book);
        int before = book.slip;
        book.slip = v;
        return before;
    }

    public int fades() {
        past.remember(book);
        book.halveScores();
        return book.count;
    }

    public int draw(int seed, int n) {
        if (!isWithin(seed, 0, MOST_SEED) || !isWithin(n, 1, MOST_DRAWS)) {
            return refuseBad();
        }
        past.remember(book);
        int came = 0;
        long x = seed;
        for (int i = 0; i < n; i++) {
            x = Draws.next(x);
            int length = Draws.upper(x, DRAWN_LENGTHS) + 1;
            long word = 0L;
            for (int k = 0; k < length; k++) {
                x = Draws.next(x);
                word = Spelling.longer(word, Draws.upper(x, LAST_LETTER + 1));
            }
            x = Draws.next(x);
            if (comes(word, Draws.upper(x, MOST_SCORE + 1), Draws.middle(x, MOST_MEANING + 1))) {
                came++;
            }
        }
        return came;
    }

    public int undo() {
        if (past.count == 0) {
            return refuseNo();
        }
        past.bringBack(book);
        return past.count;
    }

    // ---- completions

    public int best(int k) {
        if (k < NONE) {
            return refusePlace();
        }
        listing.makeEmpty();
        for (int slot = 0; slot < book.count; slot++) {
            if (beginsSo(slot)) {
                listing.insert(slot, book.scores[slot]);
            }
        }
        return listedAt(k);
    }

    public int near(int k) {
        if (k < NONE) {
            return refusePlace();
        }
        listing.makeEmpty();
        for (int slot = 0; slot < book.count; slot++) {
            if (beginsSo(slot)) {
                listing.insert(slot, book.scores[slot]);
            } else if (isClose(slot)) {
                listing.insert(slot, book.scores[slot] - book.slip);
            }
        }
        return listedAt(k);
    }

    public int top() {
        int greatest = NONE;
        for (int slot = 0; slot < book.count; slot++) {
            if (beginsSo(slot)) {
                greatest = Math.max(greatest, book.scores[slot]);
            }
        }
        return greatest;
    }

    public int under() {
        int many = 0;
        for (int slot = 0; slot < book.count; slot++) {
            if (beginsSo(slot)) {
                many++;
            }
        }
        return many;
    }

    public int close() {
        int many = 0;
        for (int slot = 0; slot < book.count; slot++) {
            if (isClose(slot)) {
                many++;
            }
        }
        return many;
    }

    public int ahead() {
        int length = Spelling.lengthOf(typed);
        int first = NONE;
        for (int slot = 0; slot < book.count; slot++) {
            if (beginsSo(slot) && Spelling.lengthOf(book.words[slot]) > length
                    && (first == NONE || book.isBefore(slot, first))) {
                first = slot;
            }
        }
        return first == NONE ? NONE : Spelling.letterAt(book.words[first], length);
    }

    public int common() {
        int first = NONE;
        int alike = 0;
        for (int slot = 0; slot < book.count; slot++) {
            if (beginsSo(slot)) {
                if (first == NONE) {
                    first = slot;
                    alike = Spelling.lengthOf(book.words[slot]);
                } else {
                    alike = Math.min(alike, Spelling.sameAtFirst(book.words[first], book.words[slot]));
                }
            }
        }
        return first == NONE ? NONE : alike - Spelling.lengthOf(typed);
    }

    public int find() {
        int slot = book.slotSpelled(typed);
        return slot == NONE ? NONE : book.numbers[slot];
    }

    public int keys(int p) {
        int slot = book.slotOf(p);
        return slot == NONE ? refuseBad() : lettersTillFirst(slot);
    }

    public int saved() {
        int all = 0;
        for (int slot = 0; slot < book.count; slot++) {
            int enough = lettersTillFirst(slot);
            if (enough != NONE) {
                all += Spelling.lengthOf(book.words[slot]) - enough;
            }
        }
        return all;
    }

    public int twins(int p) {
        int slot = book.slotOf(p);
        if (slot == NONE) {
            return refuseBad();
        }
        int meaning = book.meanings[slot];
        int many = 0;
        for (int other = 0; other < book.count; other++) {
            if (meaning != 0 && other != slot && book.meanings[other] == meaning) {
                many++;
            }
        }
        return many;
    }

    public int alike(int p, int q) {
        int one = book.slotOf(p);
        int other = book.slotOf(q);
        if (one == NONE || other == NONE) {
            return refuseBad();
        }
        return Spelling.sameAtFirst(book.words[one], book.words[other]);
    }

    // ---- orders, what there is

    public int write(int c) {
        if (!isWithin(c, 0, LAST_BYTE)) {
            return refuseBad();
        }
        if (!orders.append(c)) {
            return refuseFull();
        }
        return orders.length;
    }

    public int erase() {
        int length = orders.length;
        orders.makeEmpty();
        return length;
    }

    public int runs() {
        int fault = orders.readAll();
        if (fault != NONE) {
            return FAULT_BASE - fault;
        }
        past.remember(book);
        int done = 0;
        for (int i = 0; i < orders.count; i++) {
            if (isDone(orders.verbs[i], orders.words[i], orders.firsts[i], orders.seconds[i])) {
                done++;
            }
        }
        return done;
    }

    public int told(int what) {
        return isWithin(what, 0, LAST_TOLD) ? howMany(what) : refuseBad();
    }

    public long digest() {
        long h = 2003L;
        for (int what = 0; what <= LAST_TOLD; what++) {
            h = 31L * h + howMany(what);
        }
        for (int slot = 0; slot < book.count; slot++) {
            h = 31L * h + book.numbers[slot];
            for (int what = 0; what <= LAST_OF; what++) {
                h = 31L * h + book.detail(slot, what);
            }
            h = mixLetters(h, book.words[slot]);
        }
        return mixLetters(h, typed);
    }

    private static long mixLetters(long start, long word) {
        long h = start;
        int length = Spelling.lengthOf(word);
        for (int k = 0; k < length; k++) {
            h = 31L * h + Spelling.letterAt(word, k);
        }
        return h;
    }

    private static boolean isWithin(int v, int least, int most) {
        return v >= least && v <= most;
    }

    private int refuseBad() {
        bads++;
        return BAD;
    }

    // best() and near() count as BAD like all others, but have an answer of their own for it
    private int refusePlace() {
        bads++;
        return BAD_PLACE;
    }

    private int refuseNo() {
        noes++;
        return NO;
    }

    private int refuseFull() {
        fulls++;
        return FULL;
    }

    private boolean beginsSo(int slot) {
        return Spelling.begins(book.words[slot], typed);
    }

    private boolean isClose(int slot) {
        return Spelling.isOneSlipFrom(book.words[slot], typed);
    }

    private int listedAt(int k) {
        listing.keepFirstOfEachMeaning(book);
        if (k == NONE) {
            return listing.count;
        }
        if (k < 0 || k >= listing.count) {
            return NOT_SO_MANY;
        }
        return book.numbers[listing.slots[k]];
    }

    // A phrase is first as soon as one letter more is typed than it shares with any phrase before it.
    private int lettersTillFirst(int slot) {
        int enough = 0;
        for (int other = 0; other < book.count; other++) {
            if (other != slot && book.isBefore(other, slot)) {
                enough = Math.max(enough, 1 + Spelling.sameAtFirst(book.words[other], book.words[slot]));
            }
        }
        return enough <= Spelling.lengthOf(book.words[slot]) ? enough : NONE;
    }

    private int choose(int slot) {
        clock = Math.min(clock + 1, MOST_CLOCK);
        int chosen = Ranker.newScore(book.kind, book.scores[slot], book.uses[slot], book.lasts[slot], clock);
        book.scores[slot] = chosen;
        book.uses[slot]++;
        book.lasts[slot] = clock;
        return chosen;
    }

    private boolean comes(long word, int score, int meaning) {
        if (book.slotSpelled(word) != NONE || !book.hasRoom()) {
            return false;
        }
        book.append(word, score, meaning);
        return true;
    }

    private boolean isDone(int verb, long word, int first, int second) {
        switch (verb) {
            case Orders.ADD:
                return comes(word, first, second);
            case Orders.RANK:
                book.kind = first;
                return true;
            case Orders.SLIP:
                book.slip = first;
                return true;
            case Orders.FADE:
                book.halveScores();
                return true;
            default:
                return isDoneTo(book.slotSpelled(word), verb, first);
        }
    }

    private boolean isDoneTo(int slot, int verb, int first) {
        if (slot == NONE) {
            return false;
        }
        switch (verb) {
            case Orders.USE:
                choose(slot);
                return true;
            case Orders.SCORE:
                book.scores[slot] = first;
                return true;
            case Orders.DROP:
                book.takeOut(slot);
                return true;
            default:
                return false;
        }
    }

    private int howMany(int what) {
        switch (what) {
            case 0:
                return book.count;
            case 1:
                return book.given;
            case 2:
                return clock;
            case 3:
                return book.kind;
            case 4:
                return book.slip;
            case 5:
                return Spelling.lengthOf(typed);
            case 6:
                return past.count;
            case 7:
                return orders.length;
            case 8:
                return bads;
            case 9:
                return noes;
            default:
                return fulls;
        }
    }

    /**
     * Letters packed in a long, four bits each (the letter and 1; 0 is the end), the first one lowest:
     * so a copy is one number, words are alike when they are ==, and a beginning is a mask.
     * Words have 12 letters at most, so that 13 places still lie within the long.
     */
    private static final class Spelling {
        private Spelling() {
        }

        static int lengthOf(long word) {
            return (64 - Long.numberOfLeadingZeros(word) + 3) / 4;
        }

        static int letterAt(long word, int k) {
            return (int) ((word >>> (4 * k)) & 15L) - 1;
        }

        static long longer(long word, int letter) {
            return word | ((long) (letter + 1) << (4 * lengthOf(word)));
        }

        static long mask(int n) {
            return (1L << (4 * n)) - 1L;
        }

        static long beginning(long word, int n) {
            return word & mask(n);
        }

        static long without(long word, int k) {
            return (word & mask(k)) | ((word >>> 4) & ~mask(k));
        }

        static boolean begins(long word, long typed) {
            return beginning(word, lengthOf(typed)) == typed;
        }

        static int sameAtFirst(long one, long other) {
            return one == other ? lengthOf(one) : Long.numberOfTrailingZeros(one ^ other) / 4;
        }

        // A slip can be taken to be at the first place that differs: an earlier one is mended there as well.
        static boolean isOneSlipFrom(long word, long typed) {
            if (begins(word, typed)) {
                return false;
            }
            int length = lengthOf(typed);
            int place = sameAtFirst(word, typed);
            long rest = without(typed, place);
            return rest == beginning(word, length - 1)
                    || typed == without(beginning(word, length + 1), place)
                    || rest == without(beginning(word, length), place);
        }
    }

    /** New scores of a phrase that is chosen: each kind's stands on that of the kind that it is under. */
    private static final class Ranker {
        private Ranker() {
        }

        static int newScore(int kind, int score, int uses, int last, int clock) {
            int plain = held(score);
            int steady = held(plain + 10);
            boolean lately = last != NONE && last >= clock - 3;
            int fresh = lately ? held(steady + 20) : steady;
            int loyal = held(steady + Math.min(uses, 30));
            int hot = held(score + 2 * (fresh - score));
            switch (kind) {
                case 1:
                    return steady;
                case 2:
                    return fresh;
                case 3:
                    return loyal;
                case 4:
                    return hot;
                default:
                    return plain;
            }
        }

        static int held(int score) {
            return Math.max(0, Math.min(score, MOST_SCORE));
        }
    }

    /** Numbers drawn by a seed. */
    private static final class Draws {
        private Draws() {
        }

        static long next(long x) {
            return (x * 1103515245L + 12345L) % 2147483648L;
        }

        static int upper(long x, int many) {
            return many > 0 ? (int) (x / 65536L % many) : 0;
        }

        static int middle(long x, int many) {
            return many > 0 ? (int) (x / 1024L % many) : 0;
        }
    }

    /**
     * All that undo() brings back. Phrases stand in the order of their numbers,
     * so that of two slots the lesser has the lesser number.
     */
    private static final class Book {
        final int[] numbers = new int[MOST_PHRASES];
        final long[] words = new long[MOST_PHRASES];
        final int[] scores = new int[MOST_PHRASES];
        final int[] meanings = new int[MOST_PHRASES];
        final int[] uses = new int[MOST_PHRASES];
        final int[] lasts = new int[MOST_PHRASES];
        int count = 0;
        int given = 0;
        int kind = 0;
        int slip = FIRST_SLIP;

        void makeEmpty() {
            count = 0;
            given = 0;
            kind = 0;
            slip = FIRST_SLIP;
        }

        void copyFrom(Book other) {
            for (int slot = 0; slot < other.count; slot++) {
                moveInto(slot, other, slot);
            }
            count = other.count;
            given = other.given;
            kind = other.kind;
            slip = other.slip;
        }

        private void moveInto(int slot, Book other, int from) {
            numbers[slot] = other.numbers[from];
            words[slot] = other.words[from];
            scores[slot] = other.scores[from];
            meanings[slot] = other.meanings[from];
            uses[slot] = other.uses[from];
            lasts[slot] = other.lasts[from];
        }

        int slotOf(int number) {
            for (int slot = 0; slot < count; slot++) {
                if (numbers[slot] == number) {
                    return slot;
                }
            }
            return NONE;
        }

        int slotSpelled(long word) {
            for (int slot = 0; slot < count; slot++) {
                if (words[slot] == word) {
                    return slot;
                }
            }
            return NONE;
        }

        boolean hasRoom() {
            return count < MOST_PHRASES && given < MOST_NUMBERS;
        }

        int append(long word, int score, int meaning) {
            if (!hasRoom()) {
                return NONE;
            }
            numbers[count] = given;
            words[count] = word;
            scores[count] = score;
            meanings[count] = meaning;
            uses[count] = 0;
            lasts[count] = NONE;
            count++;
            given++;
            return given - 1;
        }

        void takeOut(int gone) {
            for (int slot = gone + 1; slot < count; slot++) {
                moveInto(slot - 1, this, slot);
            }
            count--;
        }

        void halveScores() {
            for (int slot = 0; slot < count; slot++) {
                scores[slot] = scores[slot] / 2;
            }
        }

        boolean isBefore(int one, int other) {
            return scores[one] > scores[other] || (scores[one] == scores[other] && one < other);
        }

        int detail(int slot, int what) {
            switch (what) {
                case 0:
                    return scores[slot];
                case 1:
                    return meanings[slot];
                case 2:
                    return Spelling.lengthOf(words[slot]);
                case 3:
                    return uses[slot];
                default:
                    return lasts[slot];
            }
        }
    }

    /** The last books, in a ring, so that the oldest one gives its place to the newest. */
    private static final class Past {
        private final Book[] books = new Book[MOST_UNDO];
        private int next = 0;
        int count = 0;

        Past() {
            for (int i = 0; i < MOST_UNDO; i++) {
                books[i] = new Book();
            }
        }

        void forget() {
            next = 0;
            count = 0;
        }

        void remember(Book book) {
            Book kept = books[next];
            if (kept != null) {
                kept.copyFrom(book);
                next = next + 1 < MOST_UNDO ? next + 1 : 0;
                count = Math.min(count + 1, MOST_UNDO);
            }
        }

        void bringBack(Book book) {
            int newest = next > 0 ? next - 1 : MOST_UNDO - 1;
            Book kept = books[newest];
            if (kept != null && count > 0) {
                book.copyFrom(kept);
                next = newest;
                count--;
            }
        }
    }

    /** Slots by rank, the greater ahead, of like ones the one that came first. */
    private static final class Listing {
        final int[] slots = new int[MOST_PHRASES];
        private final int[] ranks = new int[MOST_PHRASES];
        int count = 0;

        void makeEmpty() {
            count = 0;
        }

        void insert(int slot, int rank) {
            if (count >= MOST_PHRASES) {
                return;
            }
            int at = count;
            while (at > 0 && ranks[at - 1] < rank) {
                slots[at] = slots[at - 1];
                ranks[at] = ranks[at - 1];
                at--;
            }
            slots[at] = slot;
            ranks[at] = rank;
            count++;
        }

        void keepFirstOfEachMeaning(Book book) {
            int seen = 0;
            int kept = 0;
            for (int i = 0; i < count; i++) {
                int meaning = book.meanings[slots[i]];
                if (meaning == 0 || ((seen >> meaning) & 1) == 0) {
                    seen |= 1 << meaning;
                    slots[kept] = slots[i];
                    kept++;
                }
            }
            count = kept;
        }
    }

    /** The text, and the orders that it tells, read whole before one is done, as a fault leaves all as it was. */
    private static final class Orders {
        static final int ADD = 0, USE = 1, SCORE = 2, DROP = 3, RANK = 4, SLIP = 5, FADE = 6, VERBS = 7;
        // the shortest order, fade; has five bytes
        private static final int MOST_ORDERS = MOST_BYTES / 5;
        private static final int MOST_FIGURES = 4;

        private final int[] bytes = new int[MOST_BYTES];
        int length = 0;
        final int[] verbs = new int[MOST_ORDERS];
        final long[] words = new long[MOST_ORDERS];
        final int[] firsts = new int[MOST_ORDERS];
        final int[] seconds = new int[MOST_ORDERS];
        int count = 0;
        private int place = 0;
        private int fault = NONE;

        void makeEmpty() {
            length = 0;
        }

        boolean append(int c) {
            if (length >= MOST_BYTES) {
                return false;
            }
            bytes[length] = c;
            length++;
            return true;
        }

        /** Reads the orders; answers the fault's place, or NONE. */
        int readAll() {
            count = 0;
            place = 0;
            fault = NONE;
            boolean more = true;
            for (int i = 0; i < MOST_ORDERS && more && fault == NONE; i++) {
                readOrder(i);
                count = i + 1;
                skipBlanks();
                more = place < length;
            }
            return fault;
        }

        private void readOrder(int i) {
            int verb = readVerb();
            verbs[i] = verb;
            words[i] = hasWord(verb) ? readWord() : 0L;
            firsts[i] = hasNumber(verb) ? readNumber(mostNumber(verb)) : 0;
            seconds[i] = verb == ADD ? readNumber(MOST_MEANING) : 0;
            readEnd();
        }

        private static boolean hasWord(int verb) {
            return verb == ADD || verb == USE || verb == SCORE || verb == DROP;
        }

        private static boolean hasNumber(int verb) {
            return verb == ADD || verb == SCORE || verb == RANK || verb == SLIP;
        }

        private static int mostNumber(int verb) {
            if (verb == RANK) {
                return MOST_KIND;
            }
            return verb == SLIP ? MOST_SLIP : MOST_SCORE;
        }

        private static String nameOf(int verb) {
            switch (verb) {
                case ADD:
                    return "add";
                case USE:
                    return "use";
                case SCORE:
                    return "score";
                case DROP:
                    return "drop";
                case RANK:
                    return "rank";
                case SLIP:
                    return "slip";
                default:
                    return "fade";
            }
        }

        private int readVerb() {
            int from = startOfNext();
            int to = endOfRun(from, 'a', 'z');
            for (int verb = 0; verb < VERBS; verb++) {
                if (isName(nameOf(verb), from, to)) {
                    place = to;
                    return verb;
                }
            }
            fail(from);
            return NONE;
        }

        private boolean isName(String name, int from, int to) {
            if (to - from != name.length()) {
                return false;
            }
            for (int i = from; i < to; i++) {
                if (bytes[i] != name.charAt(i - from)) {
                    return false;
                }
            }
            return true;
        }

        private long readWord() {
            int from = startOfNext();
            int to = endOfRun(from, 'a', 'z');
            if (!isWithin(to - from, 1, MOST_LETTERS) || endOfRun(from, 'a', 'h') != to) {
                fail(from);
                return 0L;
            }
            long word = 0L;
            for (int i = from; i < to; i++) {
                word = Spelling.longer(word, bytes[i] - 'a');
            }
            place = to;
            return word;
        }

        private int readNumber(int most) {
            int from = startOfNext();
            int to = endOfRun(from, '0', '9');
            if (!isWithin(to - from, 1, MOST_FIGURES)) {
                fail(from);
                return 0;
            }
            int number = 0;
            for (int i = from; i < to; i++) {
                number = 10 * number + bytes[i] - '0';
            }
            if (number > most) {
                fail(from);
                return 0;
            }
            place = to;
            return number;
        }

        private void readEnd() {
            int from = startOfNext();
            if (from < length && bytes[from] == ';') {
                place = from + 1;
            } else {
                fail(from);
            }
        }

        // Reading goes on to the order's end, so a later fault must not hide the first.
        private void fail(int at) {
            if (fault == NONE) {
                fault = at;
            }
        }

        private int startOfNext() {
            skipBlanks();
            return place;
        }

        private void skipBlanks() {
            while (place < length && bytes[place] == ' ') {
                place++;
            }
        }

        private int endOfRun(int from, int least, int most) {
            int to = from;
            while (to < length && isWithin(bytes[to], least, most)) {
                to++;
            }
            return to;
        }
    }
}
