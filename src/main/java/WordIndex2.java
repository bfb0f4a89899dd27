import java.util.Arrays;

/**
 * Words of records' fields, found by all, as a phrase, near one another, by their beginning or
 * end, ranked by exact fractions; lists of what there is, and the nearest word.
 *
 * A word is held as one long of twelve letters of five bits (see Word), so that no question makes
 * texts, and comparing two numbers compares two words by their letters.
 */
public final class WordIndex2 {
    public static final int NONE = -1;

    private static final int MOST_RECORDS = 30;
    private static final int KINDS = 4;
    private static final int LANGUAGES = 3;
    private static final int MOST_FIELD_SIGNS = 1500;
    private static final int MOST_QUESTION_SIGNS = 100;
    private static final int MOST_STOPS = 40;
    private static final int MOST_LETTERS = 12;
    private static final int LEAST_END = 3;
    private static final int FARTHEST = 2;

    private final Item[] items = new Item[MOST_RECORDS];
    private int itemCount;
    private int fieldSigns;
    private final int[] languages = new int[KINDS];
    private final Text question = new Text();
    private int questionSigns;
    private final WordSet stops = new WordSet(MOST_STOPS);
    private final Hits hits = new Hits();

    // Used again by every call. Two words have a sign between them: hence half as many as signs.
    private final Terms asked = new Terms(MOST_QUESTION_SIGNS / 2);
    private final Terms fieldTerms = new Terms(MOST_FIELD_SIGNS / 2);
    private final WordSet listed = new WordSet(MOST_FIELD_SIGNS / 2);
    private final int[] costs = new int[MOST_LETTERS + 1];

    public WordIndex2() {
    }

    public int record() {
        if (itemCount < 0 || itemCount >= items.length) {
            return 0;
        }
        items[itemCount] = new Item();
        itemCount++;
        return itemCount;
    }

    public void field(int record, int kind, int c) {
        Text text = textOf(record, kind);
        if (text == null || fieldSigns >= MOST_FIELD_SIGNS) {
            return;
        }
        text.take(c);
        fieldSigns++;
    }

    public int remove(int record) {
        Item item = itemThere(record);
        if (item == null) {
            return 0;
        }
        item.there = false;
        return 1;
    }

    public void sign(int c) {
        if (questionSigns < MOST_QUESTION_SIGNS) {
            question.take(c);
            questionSigns++;
        }
    }

    public int ask(int kind) {
        startSearch(kind);
        return gather(kind, new AllSearch(asked));
    }

    public int phrase(int kind) {
        startSearch(kind);
        return gather(kind, new PhraseSearch(asked));
    }

    public int near(int kind, int distance) {
        startSearch(kind);
        long first = asked.at(0);
        long second = asked.at(1);
        if (first == 0 || second == 0 || distance < 1) {
            return 0;
        }
        return gather(kind, new NearSearch(first, second, distance));
    }

    public int wild(int kind, boolean end) {
        long word = question.wordAt(0);
        startSearch(kind);
        if (word == 0 || (end && Word.length(word) < LEAST_END)) {
            return 0;
        }
        return gather(kind, new WildSearch(word, end));
    }

    public int hit(int i, int what) {
        if (what == 0) {
            return hits.numberAt(i);
        }
        return what == 1 ? hits.countAt(i) : 0;
    }

    public long rank(int i, int side) {
        int count = hits.countAt(i);
        int size = hits.sizeAt(i);
        int divisor = commonDivisor(count, size);
        if (divisor < 1) {
            return NONE;
        }
        return (side == 0 ? count : size) / divisor;
    }

    public int term(int kind, int i, int k) {
        listTerms(kind);
        long found = listed.at(i);
        if (found == 0 || k < 0) {
            return NONE;
        }
        return Word.signAt(found, k);
    }

    public int nearest(int kind) {
        long word = question.wordAt(0);
        clearQuestion();
        if (word == 0) {
            return NONE;
        }
        listTerms(kind);
        int best = FARTHEST + 1;
        int place = NONE;
        for (int i = 0; i < listed.size(); i++) {
            int distance = Word.distance(word, listed.at(i), costs);
            if (distance < best) {
                best = distance;
                place = i;
            }
        }
        return place;
    }

    public int stop() {
        for (int i = 0; i < question.size(); i++) {
            stops.add(question.wordAt(i));
        }
        clearQuestion();
        return stops.size();
    }

    public int language(int kind, int l) {
        if (!isKind(kind) || l < 0 || l >= LANGUAGES) {
            return NONE;
        }
        int before = languages[kind];
        languages[kind] = l;
        return before;
    }

    private static boolean isKind(int kind) {
        return kind >= 0 && kind < KINDS;
    }

    private Item itemThere(int number) {
        if (number < 1 || number > itemCount || number > items.length) {
            return null;
        }
        Item item = items[number - 1];
        return item != null && item.there ? item : null;
    }

    private Text textOf(int number, int kind) {
        Item item = itemThere(number);
        return item == null ? null : item.textAt(kind);
    }

    private void clearQuestion() {
        question.clear();
        questionSigns = 0;
    }

    /** Also for a field that is not there: the hits before are gone, and nothing stays collected. */
    private void startSearch(int kind) {
        hits.clear();
        asked.clear();
        if (isKind(kind)) {
            asked.read(question, languages[kind], stops);
        }
        clearQuestion();
    }

    private int gather(int kind, Search search) {
        for (int number = 1; number <= itemCount; number++) {
            int count = readField(number, kind) ? search.countIn(fieldTerms) : 0;
            if (count > 0 && search.meets(fieldTerms)) {
                hits.add(number, count, fieldTerms.size());
            }
        }
        return hits.size();
    }

    private boolean readField(int number, int kind) {
        Text text = textOf(number, kind);
        if (text == null || !isKind(kind)) {
            return false;
        }
        fieldTerms.read(text, languages[kind], stops);
        return true;
    }

    private void listTerms(int kind) {
        listed.clear();
        for (int number = 1; number <= itemCount; number++) {
            if (readField(number, kind)) {
                listFieldTerms();
            }
        }
    }

    private void listFieldTerms() {
        for (int place = 0; place < fieldTerms.size(); place++) {
            if (fieldTerms.at(place) != 0) {
                listed.add(fieldTerms.at(place));
            }
        }
    }

    /** 0 if one of the two is not above 0. */
    private static int commonDivisor(int a, int b) {
        for (int d = Math.min(a, b); d > 0; d--) {
            if (a % d == 0 && b % d == 0) {
                return d;
            }
        }
        return 0;
    }

    /** A record. */
    private static final class Item {
        private final Text[] texts = new Text[KINDS];
        private boolean there = true;

        Item() {
            for (int kind = 0; kind < texts.length; kind++) {
                texts[kind] = new Text();
            }
        }

        Text textAt(int kind) {
            return kind < 0 || kind >= texts.length ? null : texts[kind];
        }
    }

    /** A row of signs, of which only the words are kept: nothing ever asks for the signs again. */
    private static final class Text {
        private long[] words = new long[4];
        private int count;
        // Letters of the word at the end, 0 if the next letter begins a new word.
        private int openLetters;

        int size() {
            return count;
        }

        long wordAt(int place) {
            return place < 0 || place >= count || place >= words.length ? 0 : words[place];
        }

        void clear() {
            count = 0;
            openLetters = 0;
        }

        void take(int c) {
            int letter = Word.letterOf(c & 255);
            if (letter == 0) {
                openLetters = 0;
                return;
            }
            if (openLetters == 0) {
                beginWord();
            }
            int last = count - 1;
            if (openLetters < MOST_LETTERS && last >= 0 && last < words.length) {
                words[last] = Word.with(words[last], openLetters, letter);
                openLetters++;
            }
        }

        private void beginWord() {
            if (count >= words.length) {
                words = Arrays.copyOf(words, 2 * count + 4);
            }
            words[count] = 0;
            count++;
        }
    }

    /**
     * Words as numbers: the first letter stands highest, a is 1, z is 26, 0 is past the end. So 0
     * is no word, and a smaller number is a word that comes earlier by its letters.
     */
    private static final class Word {
        private static final int LETTER_BITS = 5;
        private static final int LETTER_MASK = 31;
        private static final long ALL_LETTERS = (1L << (LETTER_BITS * MOST_LETTERS)) - 1;
        private static final int BEFORE_A = 'a' - 1;

        private Word() {
        }

        static int letterOf(int c) {
            if (c >= 'A' && c <= 'Z') {
                return c - 'A' + 1;
            }
            return c >= 'a' && c <= 'z' ? c - BEFORE_A : 0;
        }

        static long with(long word, int k, int letter) {
            return word | ((long) letter << shift(k));
        }

        static int letterAt(long word, int k) {
            return k < 0 || k >= MOST_LETTERS ? 0 : (int) (word >>> shift(k)) & LETTER_MASK;
        }

        static int signAt(long word, int k) {
            int letter = letterAt(word, k);
            return letter == 0 ? 0 : letter + BEFORE_A;
        }

        static int length(long word) {
            int length = 0;
            while (length < MOST_LETTERS && letterAt(word, length) != 0) {
                length++;
            }
            return length;
        }

        static long stem(long word, int l) {
            int length = length(word);
            int last = letterAt(word, length - 1);
            if (l == 1) {
                return last == letterOf('s') && length > 3 ? firstLetters(word, length - 1) : word;
            }
            if (l != 2) {
                return word;
            }
            boolean endsInEn = last == letterOf('n') && letterAt(word, length - 2) == letterOf('e');
            if (endsInEn && length > 4) {
                return firstLetters(word, length - 2);
            }
            return last == letterOf('e') && length > 3 ? firstLetters(word, length - 1) : word;
        }

        static boolean beginsWith(long word, long beginning) {
            return firstLetters(word, length(beginning)) == beginning;
        }

        static boolean endsWith(long word, long end) {
            int before = length(word) - length(end);
            return before >= 0 && ((word << (LETTER_BITS * before)) & ALL_LETTERS) == end;
        }

        /** How many letters to put in, to take out or to change; costs has room for a row of them. */
        static int distance(long from, long to, int[] costs) {
            int width = Math.min(length(to), costs.length - 1);
            for (int j = 0; j <= width; j++) {
                costs[j] = j;
            }
            int height = length(from);
            for (int i = 0; i < height; i++) {
                nextCosts(letterAt(from, i), to, width, costs);
            }
            return width < 0 ? height : costs[width];
        }

        private static void nextCosts(int letter, long to, int width, int[] costs) {
            if (width < 0 || width >= costs.length) {
                return;
            }
            int diagonal = costs[0];
            costs[0]++;
            for (int j = 1; j <= width; j++) {
                int change = letter == letterAt(to, j - 1) ? diagonal : diagonal + 1;
                diagonal = costs[j];
                costs[j] = Math.min(change, Math.min(costs[j], costs[j - 1]) + 1);
            }
        }

        private static int shift(int k) {
            return LETTER_BITS * (MOST_LETTERS - 1 - k);
        }

        private static long firstLetters(long word, int n) {
            if (n <= 0) {
                return 0;
            }
            return n >= MOST_LETTERS ? word : word >>> shift(n - 1) << shift(n - 1);
        }
    }

    /** Different words in the order of their letters, the first ones that there is room for. */
    private static final class WordSet {
        private final long[] words;
        private int count;

        WordSet(int room) {
            words = new long[Math.max(room, 0)];
        }

        int size() {
            return count;
        }

        long at(int i) {
            return i < 0 || i >= count || i >= words.length ? 0 : words[i];
        }

        void clear() {
            count = 0;
        }

        boolean has(long word) {
            int place = placeOf(word);
            return place < count && at(place) == word;
        }

        void add(long word) {
            int place = placeOf(word);
            if (count >= words.length || place > count || at(place) == word) {
                return;
            }
            System.arraycopy(words, place, words, place + 1, count - place);
            words[place] = word;
            count++;
        }

        /** How many words come before this one; 32 halvings are enough for any length. */
        private int placeOf(long word) {
            int low = 0;
            int high = count;
            for (int step = 0; step < 32 && low < high; step++) {
                int middle = (low + high) >>> 1;
                if (at(middle) < word) {
                    low = middle + 1;
                } else {
                    high = middle;
                }
            }
            return low;
        }
    }

    /** The TERMS at the places of a row of words, 0 where a STOP word stands. */
    private static final class Terms {
        private final long[] terms;
        private int count;

        Terms(int room) {
            terms = new long[Math.max(room, 0)];
        }

        int size() {
            return count;
        }

        long at(int place) {
            return place < 0 || place >= count || place >= terms.length ? 0 : terms[place];
        }

        void clear() {
            count = 0;
        }

        void read(Text text, int l, WordSet stops) {
            count = Math.min(text.size(), terms.length);
            for (int place = 0; place < count; place++) {
                long word = text.wordAt(place);
                terms[place] = stops.has(word) ? 0 : Word.stem(word, l);
            }
        }

        boolean has(long wanted) {
            for (int place = 0; place < count; place++) {
                if (at(place) == wanted) {
                    return true;
                }
            }
            return false;
        }
    }

    /** The hits of a question, by rank, copied so that later changes leave them as they were. */
    private static final class Hits {
        private final int[] numbers = new int[MOST_RECORDS];
        private final int[] counts = new int[MOST_RECORDS];
        private final int[] sizes = new int[MOST_RECORDS];
        private int count;

        int size() {
            return count;
        }

        int numberAt(int i) {
            return isHit(i) ? numbers[i] : 0;
        }

        int countAt(int i) {
            return isHit(i) ? counts[i] : 0;
        }

        int sizeAt(int i) {
            return isHit(i) ? sizes[i] : 0;
        }

        void clear() {
            count = 0;
        }

        /** Records come by number, so one of the same rank belongs behind those before it. */
        void add(int number, int found, int size) {
            if (count >= MOST_RECORDS) {
                return;
            }
            int place = count;
            while (place > 0 && isGreater(found, size, place - 1)) {
                numbers[place] = numbers[place - 1];
                counts[place] = counts[place - 1];
                sizes[place] = sizes[place - 1];
                place--;
            }
            numbers[place] = number;
            counts[place] = found;
            sizes[place] = size;
            count++;
        }

        private boolean isGreater(int found, int size, int i) {
            return (long) found * sizeAt(i) > (long) countAt(i) * size;
        }

        private boolean isHit(int i) {
            return i >= 0 && i < count && i < MOST_RECORDS;
        }
    }

    /** What a question wants of a field. */
    private abstract static class Search {
        /**
         * Asked only of a field with a TERM that is wanted: without one there is no hit, and so none
         * for a question without words or of STOP words alone.
         */
        abstract boolean meets(Terms found);

        /** Never asked for 0, which is no TERM. */
        abstract boolean wants(long found);

        final int countIn(Terms found) {
            int count = 0;
            for (int place = 0; place < found.size(); place++) {
                if (found.at(place) != 0 && wants(found.at(place))) {
                    count++;
                }
            }
            return count;
        }
    }

    private static final class AllSearch extends Search {
        private final Terms asked;

        AllSearch(Terms asked) {
            this.asked = asked;
        }

        boolean meets(Terms found) {
            for (int i = 0; i < asked.size(); i++) {
                if (asked.at(i) != 0 && !found.has(asked.at(i))) {
                    return false;
                }
            }
            return true;
        }

        boolean wants(long found) {
            return asked.has(found);
        }
    }

    private static final class PhraseSearch extends Search {
        private final Terms asked;

        PhraseSearch(Terms asked) {
            this.asked = asked;
        }

        /** A STOP word, at either end too, needs a word at its place: the whole phrase must fit. */
        boolean meets(Terms found) {
            for (int start = 0; start + asked.size() <= found.size(); start++) {
                if (standsAt(found, start)) {
                    return true;
                }
            }
            return false;
        }

        boolean wants(long found) {
            return asked.has(found);
        }

        private boolean standsAt(Terms found, int start) {
            for (int i = 0; i < asked.size(); i++) {
                if (asked.at(i) != 0 && asked.at(i) != found.at(start + i)) {
                    return false;
                }
            }
            return true;
        }
    }

    private static final class NearSearch extends Search {
        private final long first;
        private final long second;
        private final int distance;

        NearSearch(long first, long second, int distance) {
            this.first = first;
            this.second = second;
            this.distance = distance;
        }

        boolean meets(Terms found) {
            for (int place = 0; place < found.size(); place++) {
                if (found.at(place) == first && secondIsBeside(found, place)) {
                    return true;
                }
            }
            return false;
        }

        boolean wants(long found) {
            return found == first || found == second;
        }

        private boolean secondIsBeside(Terms found, int place) {
            for (int other = 0; other < found.size(); other++) {
                boolean close = other != place && Math.abs(other - place) <= distance;
                if (close && found.at(other) == second) {
                    return true;
                }
            }
            return false;
        }
    }

    private static final class WildSearch extends Search {
        private final long word;
        private final boolean end;

        WildSearch(long word, boolean end) {
            this.word = word;
            this.end = end;
        }

        boolean meets(Terms found) {
            return true;
        }

        boolean wants(long found) {
            return end ? Word.endsWith(found, word) : Word.beginsWith(found, word);
        }
    }
}
