/** Counts and prints the answers that are not as due, and writes texts sign by sign. */
final class Check {
    static final int LEAST = Integer.MIN_VALUE;
    static final int MOST = Integer.MAX_VALUE;

    private static int wrong = 0;

    private Check() {
    }

    static void due(String what, long got, long want) {
        if (got != want) {
            wrong++;
            System.out.println(what + " answered " + got + ", due is " + want);
        }
    }

    static void due(String what, String got, String want) {
        if (!got.equals(want)) {
            wrong++;
            System.out.println(what + " answered " + got + ", due is " + want);
        }
    }

    static void write(WordIndex2 x, int record, int kind, String text) {
        for (int i = 0; i < text.length(); i++) {
            x.field(record, kind, text.charAt(i));
        }
    }

    /** A new record with this text in this field. */
    static int add(WordIndex2 x, int kind, String text) {
        int number = x.record();
        write(x, number, kind, text);
        return number;
    }

    static WordIndex2 collect(WordIndex2 x, String text) {
        for (int i = 0; i < text.length(); i++) {
            x.sign(text.charAt(i));
        }
        return x;
    }

    static void stop(WordIndex2 x, String text) {
        collect(x, text).stop();
    }

    /** All hits as "record:count=above/below", one behind the other. */
    static String hits(WordIndex2 x) {
        StringBuilder text = new StringBuilder();
        for (int i = 0; x.hit(i, 0) != 0; i++) {
            text.append(i == 0 ? "" : " ").append(x.hit(i, 0)).append(':').append(x.hit(i, 1));
            text.append('=').append(x.rank(i, 0)).append('/').append(x.rank(i, 1));
        }
        return text.toString();
    }

    /** All terms of a field, one behind the other. */
    static String terms(WordIndex2 x, int kind) {
        StringBuilder text = new StringBuilder();
        for (int i = 0; x.term(kind, i, 0) != WordIndex2.NONE; i++) {
            text.append(i == 0 ? "" : " ");
            for (int letter = x.term(kind, i, 0), k = 1; letter > 0; k++) {
                text.append((char) letter);
                letter = x.term(kind, i, k);
            }
        }
        return text.toString();
    }

    static void end() {
        System.out.println(wrong == 0 ? "all answers are as due" : wrong + " answers are not as due");
        if (wrong != 0) {
            System.exit(1);
        }
    }
}
