import java.util.Random;

/** Runs of 512 calls, the same ones each time, on the program and on PlainIndex. */
public final class PlainIndexTest {
    private static final int RUNS = 3000;
    private static final int CALLS = 512;
    private static final String[] WORDS = {
        "a", "an", "the", "cat", "cats", "Cat", "mat", "mats", "sat", "bus", "glass", "open", "offen",
        "offene", "Lichte", "lichten", "licht", "able", "abe", "een", "en", "e", "s", "ss",
        "abcdefghijklmnop", "abcdefghijks", "abcdefghijen", "abcdefghijke", "bcdefghijklm"};
    private static final String[] GAPS = {" ", " ", " ", ", ", "-", "1", "\u00e9", "@", "[", "`", "{", ""};
    private static final int[] ODD = {-1, Integer.MIN_VALUE, Integer.MAX_VALUE, 31, 4, 256};

    private final Random random;
    private final int run;
    private final WordIndex2 x = new WordIndex2();
    private final PlainIndex plain = new PlainIndex();
    private int calls;

    private PlainIndexTest(int run) {
        this.run = run;
        this.random = new Random(run);
    }

    public static void main(String[] args) {
        for (int run = 1; run <= RUNS; run++) {
            new PlainIndexTest(run).callAll();
        }
        Check.end();
    }

    private void callAll() {
        int fieldShare = 1 + random.nextInt(6);
        int removeShare = random.nextInt(20);
        while (calls < CALLS) {
            int choice = random.nextInt(20);
            if (choice < fieldShare) {
                write();
            } else if (choice == 10) {
                due("record", x.record(), plain.record());
            } else if (choice == 11 && random.nextInt(20) < removeShare) {
                int record = number(8);
                due("remove(" + record + ")", x.remove(record), plain.remove(record));
            } else if (choice == 12) {
                changeWords();
            } else {
                question();
            }
        }
    }

    private void due(String call, long got, long want) {
        calls++;
        Check.due("run " + run + ", call " + calls + ": " + call, got, want);
    }

    private int number(int below) {
        return random.nextInt(40) == 0 ? ODD[random.nextInt(ODD.length)] : random.nextInt(below);
    }

    /** Mostly the same two fields, so that there is something to find in them. */
    private int kind() {
        return random.nextInt(6) == 0 ? number(4) : run % 3;
    }

    private String words(int most) {
        StringBuilder text = new StringBuilder();
        for (int n = random.nextInt(most + 1); n >= 0; n--) {
            text.append(WORDS[random.nextInt(random.nextBoolean() ? 9 : WORDS.length)]);
            text.append(GAPS[random.nextInt(GAPS.length)]);
        }
        return text.toString();
    }

    private int bits(char c) {
        return random.nextInt(10) == 0 ? c + 256 * (random.nextInt(9) - 4) : c;
    }

    private void write() {
        int record = number(8);
        int kind = kind();
        for (char c : words(4).toCharArray()) {
            int sign = bits(c);
            x.field(record, kind, sign);
            plain.field(record, kind, sign);
            calls++;
        }
    }

    private void collect(String text) {
        for (char c : text.toCharArray()) {
            int sign = bits(c);
            x.sign(sign);
            plain.sign(sign);
            calls++;
        }
    }

    private void changeWords() {
        if (random.nextInt(3) == 0) {
            collect(words(random.nextInt(20) == 0 ? 30 : 1));
            due("stop()", x.stop(), plain.stop());
        } else {
            int kind = kind();
            int l = number(3);
            due("language(" + kind + ", " + l + ")", x.language(kind, l), plain.language(kind, l));
        }
    }

    private void question() {
        int kind = kind();
        if (random.nextInt(8) != 0) {
            collect(random.nextInt(5) == 0 ? piece() : words(random.nextInt(30) == 0 ? 30 : 2));
        }
        switch (random.nextInt(6)) {
            case 0 -> due("ask(" + kind + ")", x.ask(kind), plain.ask(kind));
            case 1 -> due("phrase(" + kind + ")", x.phrase(kind), plain.phrase(kind));
            case 2 -> {
                int distance = number(5);
                due("near(" + kind + ", " + distance + ")", x.near(kind, distance), plain.near(kind, distance));
            }
            case 3 -> {
                boolean end = random.nextBoolean();
                due("wild(" + kind + ", " + end + ")", x.wild(kind, end), plain.wild(kind, end));
            }
            case 4 -> due("nearest(" + kind + ")", x.nearest(kind), plain.nearest(kind));
            default -> {
                int i = number(12);
                int k = number(14);
                due("term(" + kind + ", " + i + ", " + k + ")", x.term(kind, i, k), plain.term(kind, i, k));
            }
        }
        lookAtHits();
    }

    private String piece() {
        String word = WORDS[random.nextInt(WORDS.length)];
        int from = random.nextInt(word.length());
        return word.substring(from, from + 1 + random.nextInt(word.length() - from));
    }

    private void lookAtHits() {
        for (int i = 0; i < 3; i++) {
            int at = random.nextInt(10) == 0 ? number(30) : i;
            int what = number(3);
            due("hit(" + at + ", " + what + ")", x.hit(at, what), plain.hit(at, what));
            due("rank(" + at + ", " + what + ")", x.rank(at, what), plain.rank(at, what));
        }
    }
}
