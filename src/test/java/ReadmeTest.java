/** What README.md tells: its example, and each of its readings of the document. */
public final class ReadmeTest {
    private ReadmeTest() {
    }

    public static void main(String[] args) {
        example();
        stopWordAsItIs();
        countOfNear();
        hitsThatStay();
        questionToNoField();
        stopWordAtTheEndsOfAPhrase();
        stopWordAgain();
        letterBelow0();
        Check.end();
    }

    private static void example() {
        WordIndex2 index = new WordIndex2();
        int record = index.record();
        for (char c : "The cat sat".toCharArray()) {
            index.field(record, 0, c);
        }
        for (char c : "cat".toCharArray()) {
            index.sign(c);
        }
        Check.due("example: record()", record, 1);
        Check.due("example: ask(0)", index.ask(0), 1);
        Check.due("example: hit(0, 0)", index.hit(0, 0), 1);
        Check.due("example: rank(0, 0)", index.rank(0, 0), 1);
        Check.due("example: rank(0, 1)", index.rank(0, 1), 3);
    }

    /** "the" is a STOP word, "then" and "bathe" are none. */
    private static void stopWordAsItIs() {
        WordIndex2 x = new WordIndex2();
        Check.add(x, 0, "the then bathe");
        Check.stop(x, "the");
        Check.due("wild of a STOP word", Check.collect(x, "the").wild(0, false), 1);
        Check.due("its hits", Check.hits(x), "1:1=1/3");
        Check.due("wild of a STOP word at the end", Check.collect(x, "the").wild(0, true), 1);
        Check.due("its hits", Check.hits(x), "1:1=1/3");
        Check.due("nearest of a STOP word", Check.collect(x, "the").nearest(0), 1);
    }

    private static void countOfNear() {
        WordIndex2 x = new WordIndex2();
        Check.add(x, 0, "cat mat sat sat cat");
        Check.due("near of three words", Check.collect(x, "cat mat sat").near(0, 1), 1);
        Check.due("its hits", Check.hits(x), "1:3=3/5");
    }

    private static void hitsThatStay() {
        WordIndex2 x = new WordIndex2();
        Check.add(x, 0, "cat mat");
        Check.collect(x, "cat").ask(0);
        Check.due("nearest", Check.collect(x, "mat").nearest(0), 1);
        Check.due("hits behind nearest", Check.hits(x), "1:1=1/2");
        Check.due("stop", Check.collect(x, "cat").stop(), 1);
        Check.due("hits behind stop", Check.hits(x), "1:1=1/2");
    }

    private static void questionToNoField() {
        WordIndex2 x = new WordIndex2();
        Check.add(x, 0, "cat");
        Check.due("ask of no field", Check.collect(x, "cat").ask(4), 0);
        Check.due("ask behind it", x.ask(0), 0);
        Check.due("nearest of no field", Check.collect(x, "cat").nearest(-1), WordIndex2.NONE);
        Check.due("nearest behind it", x.nearest(0), WordIndex2.NONE);
    }

    private static void stopWordAtTheEndsOfAPhrase() {
        WordIndex2 x = new WordIndex2();
        Check.add(x, 0, "cat");
        Check.add(x, 0, "a cat");
        Check.add(x, 0, "cat sat");
        Check.stop(x, "the");
        Check.collect(x, "the cat").phrase(0);
        Check.due("phrase that begins with a STOP word", Check.hits(x), "2:1=1/2");
        Check.collect(x, "cat the").phrase(0);
        Check.due("phrase that ends with a STOP word", Check.hits(x), "3:1=1/2");
    }

    private static void stopWordAgain() {
        WordIndex2 x = new WordIndex2();
        Check.due("stop of a word twice", Check.collect(x, "the The").stop(), 1);
        Check.due("stop of it again", Check.collect(x, "the a").stop(), 2);
    }

    private static void letterBelow0() {
        WordIndex2 x = new WordIndex2();
        Check.add(x, 0, "cat");
        Check.due("term(0, 0, -1)", x.term(0, 0, -1), WordIndex2.NONE);
    }
}
