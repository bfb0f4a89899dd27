import java.util.ArrayList;
import java.util.List;
import java.util.TreeSet;

/**
 * The document again, with the library's texts, lists and sets and none of the program's ideas:
 * all signs are kept and cut into words anew at each call.
 */
final class PlainIndex {
    private static final String NO_TERM = "";

    private final List<StringBuilder[]> records = new ArrayList<>();
    private final List<Boolean> there = new ArrayList<>();
    private final List<String> stops = new ArrayList<>();
    private final int[] languages = new int[4];
    private final StringBuilder question = new StringBuilder();
    private List<int[]> hits = new ArrayList<>();

    private interface Wish {
        boolean isMetBy(List<String> terms);
    }

    private interface Wanted {
        boolean has(String term);
    }

    int record() {
        if (records.size() == 30) {
            return 0;
        }
        StringBuilder[] fields = new StringBuilder[4];
        for (int kind = 0; kind < 4; kind++) {
            fields[kind] = new StringBuilder();
        }
        records.add(fields);
        there.add(true);
        return records.size();
    }

    void field(int record, int kind, int c) {
        int signs = records.stream().mapToInt(PlainIndex::signsOf).sum();
        if (isThere(record) && isKind(kind) && signs < 1500) {
            records.get(record - 1)[kind].append((char) (c & 255));
        }
    }

    int remove(int record) {
        if (!isThere(record)) {
            return 0;
        }
        there.set(record - 1, false);
        return 1;
    }

    void sign(int c) {
        if (question.length() < 100) {
            question.append((char) (c & 255));
        }
    }

    int ask(int kind) {
        List<String> asked = termsOf(takeQuestion(), kind);
        List<String> needed = new ArrayList<>(asked);
        needed.removeIf(String::isEmpty);
        return find(kind, !needed.isEmpty(), terms -> terms.containsAll(needed), needed::contains);
    }

    int phrase(int kind) {
        List<String> asked = termsOf(takeQuestion(), kind);
        boolean any = asked.stream().anyMatch(t -> !t.isEmpty());
        return find(kind, any, terms -> hasPhrase(terms, asked), asked::contains);
    }

    int near(int kind, int distance) {
        List<String> asked = termsOf(takeQuestion(), kind);
        boolean two = asked.size() >= 2 && !asked.get(0).isEmpty() && !asked.get(1).isEmpty();
        if (!two) {
            return find(kind, false, terms -> false, term -> false);
        }
        String a = asked.get(0);
        String b = asked.get(1);
        return find(kind, distance >= 1, terms -> areNear(terms, a, b, distance),
            term -> term.equals(a) || term.equals(b));
    }

    int wild(int kind, boolean end) {
        List<String> words = wordsOf(takeQuestion());
        if (words.isEmpty() || (end && words.get(0).length() < 3)) {
            return find(kind, false, terms -> false, term -> false);
        }
        String word = words.get(0);
        Wanted wanted = term -> end ? term.endsWith(word) : term.startsWith(word);
        return find(kind, true, terms -> terms.stream().anyMatch(wanted::has), wanted);
    }

    int hit(int i, int what) {
        return i < 0 || i >= hits.size() || what < 0 || what > 1 ? 0 : hits.get(i)[what];
    }

    long rank(int i, int side) {
        if (i < 0 || i >= hits.size()) {
            return -1;
        }
        int[] hit = hits.get(i);
        int divisor = java.math.BigInteger.valueOf(hit[1])
            .gcd(java.math.BigInteger.valueOf(hit[2])).intValue();
        return hit[side == 0 ? 1 : 2] / divisor;
    }

    int term(int kind, int i, int k) {
        List<String> terms = listOf(kind);
        if (i < 0 || i >= terms.size() || k < 0) {
            return -1;
        }
        return k < terms.get(i).length() ? terms.get(i).charAt(k) : 0;
    }

    int nearest(int kind) {
        List<String> words = wordsOf(takeQuestion());
        List<String> terms = listOf(kind);
        for (int most = 0; most <= 2 && !words.isEmpty(); most++) {
            for (int i = 0; i < terms.size(); i++) {
                if (within(words.get(0), terms.get(i), most)) {
                    return i;
                }
            }
        }
        return -1;
    }

    int stop() {
        for (String word : wordsOf(takeQuestion())) {
            if (!stops.contains(word) && stops.size() < 40) {
                stops.add(word);
            }
        }
        return stops.size();
    }

    int language(int kind, int l) {
        if (!isKind(kind) || l < 0 || l > 2) {
            return -1;
        }
        int before = languages[kind];
        languages[kind] = l;
        return before;
    }

    private static int signsOf(StringBuilder[] fields) {
        return fields[0].length() + fields[1].length() + fields[2].length() + fields[3].length();
    }

    private static boolean isKind(int kind) {
        return kind >= 0 && kind <= 3;
    }

    private boolean isThere(int record) {
        return record >= 1 && record <= records.size() && there.get(record - 1);
    }

    private String takeQuestion() {
        String text = question.toString();
        question.setLength(0);
        return text;
    }

    private static List<String> wordsOf(String text) {
        List<String> words = new ArrayList<>();
        for (String word : text.split("[^A-Za-z]+")) {
            if (!word.isEmpty()) {
                words.add(word.substring(0, Math.min(12, word.length())).toLowerCase(java.util.Locale.ROOT));
            }
        }
        return words;
    }

    private List<String> termsOf(String text, int kind) {
        List<String> terms = new ArrayList<>();
        if (isKind(kind)) {
            for (String word : wordsOf(text)) {
                terms.add(stops.contains(word) ? NO_TERM : stemOf(word, languages[kind]));
            }
        }
        return terms;
    }

    private static String stemOf(String word, int l) {
        if (l == 1) {
            return word.replaceFirst("^(.{3,})s$", "$1");
        }
        if (l == 2) {
            return word.matches(".{3,}en") ? word.replaceFirst("en$", "") : word.replaceFirst("^(.{3,})e$", "$1");
        }
        return word;
    }

    private int find(int kind, boolean asked, Wish wish, Wanted wanted) {
        hits = new ArrayList<>();
        for (int record = 1; asked && isKind(kind) && record <= records.size(); record++) {
            List<String> terms = termsOf(records.get(record - 1)[kind].toString(), kind);
            if (isThere(record) && wish.isMetBy(terms)) {
                int count = (int) terms.stream().filter(t -> !t.isEmpty() && wanted.has(t)).count();
                hits.add(new int[] {record, count, terms.size()});
            }
        }
        hits.sort((a, b) -> Integer.compare(b[1] * a[2], a[1] * b[2]));
        return hits.size();
    }

    private static boolean hasPhrase(List<String> terms, List<String> asked) {
        for (int start = 0; start + asked.size() <= terms.size(); start++) {
            boolean same = true;
            for (int i = 0; i < asked.size(); i++) {
                same &= asked.get(i).isEmpty() || asked.get(i).equals(terms.get(start + i));
            }
            if (same) {
                return true;
            }
        }
        return false;
    }

    private static boolean areNear(List<String> terms, String a, String b, int distance) {
        for (int i = 0; i < terms.size(); i++) {
            for (int j = 0; j < terms.size(); j++) {
                if (i != j && terms.get(i).equals(a) && terms.get(j).equals(b)
                    && (long) Math.abs(i - j) <= distance) {
                    return true;
                }
            }
        }
        return false;
    }

    private List<String> listOf(int kind) {
        TreeSet<String> terms = new TreeSet<>();
        for (int record = 1; isKind(kind) && record <= records.size(); record++) {
            if (isThere(record)) {
                terms.addAll(termsOf(records.get(record - 1)[kind].toString(), kind));
            }
        }
        terms.remove(NO_TERM);
        return new ArrayList<>(terms);
    }

    private static boolean within(String a, String b, int most) {
        if (most < 0) {
            return false;
        }
        if (a.isEmpty() || b.isEmpty()) {
            return a.length() + b.length() <= most;
        }
        String restOfA = a.substring(1);
        String restOfB = b.substring(1);
        return within(restOfA, restOfB, a.charAt(0) == b.charAt(0) ? most : most - 1)
            || within(restOfA, b, most - 1) || within(a, restOfB, most - 1);
    }
}
