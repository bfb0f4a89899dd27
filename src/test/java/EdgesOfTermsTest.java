/**
 * The boundary cases that the document's part "Terms" names, a method for each of its sentences,
 * on an object of its own and, but for the 1,500 signs, within the 512 calls that are promised.
 */
public final class EdgesOfTermsTest {
    private EdgesOfTermsTest() {
    }

    public static void main(String[] args) {
        recordsAre1To30();
        fieldsAre0To3();
        signsAreAtMost1500InAll();
        differentWordsOf1500Signs();
        signsOfRemovedOnesCountToo();
        refusedSignsDoNotCount();
        wordsAreTheLongestRowsOfLetters();
        lettersAreAToZ();
        lettersAreSmallOnes();
        wordsAreCutTo12();
        placesAre0And1AndOn();
        language0IsTheWord();
        language1TakesLastSFromMoreThanThree();
        language2TakesEnFromMoreThanFour();
        language2ElseTakesEFromMoreThanThree();
        stemsAreOfTheWordThatIsCut();
        languageIsThatOfTheFieldAsItIsNow();
        stopWordsAreStopWordsAsWords();
        stopWordsHaveTheirPlace();
        questionIsWhatIsCollectedAsWords();
        usingLeavesNothingCollected();
        refusedUseLeavesNothingCollected();
        termsOfAQuestionAreByThatField();
        meetingIsByTheTerm();
        hitsAreThere();
        hitsAreByRankTheGreatestFirst();
        ranksAreComparedExactly();
        hitsOfOneRankAreByNumber();
        countIsOfPlaces();
        rankIsDividedByAllWords();
        noneIsMinusOne();
        Check.end();
    }

    private static void recordsAre1To30() {
        WordIndex2 x = new WordIndex2();
        for (int i = 0; i < 31; i++) {
            x.record();
        }
        int[] none = {0, 31, -1, 32, Check.LEAST, Check.MOST, 1 - 256, 257};
        for (int record : none) {
            Check.write(x, record, 0, "a");
            Check.due("RECORDS are 1 .. 30: remove " + record, x.remove(record), 0);
        }
        Check.due("RECORDS are 1 .. 30: nothing came", x.term(0, 0, 0), -1);
        Check.write(x, 1, 0, "a");
        Check.write(x, 30, 0, "a");
        Check.due("RECORDS are 1 .. 30: 1 and 30", Check.collect(x, "a").ask(0), 2);
        Check.due("RECORDS are 1 .. 30: 1 and 30", Check.hits(x), "1:1=1/1 30:1=1/1");
        Check.due("RECORDS are 1 .. 30: 1", x.remove(1), 1);
        Check.due("RECORDS are 1 .. 30: 30", x.remove(30), 1);
    }

    private static void fieldsAre0To3() {
        WordIndex2 x = new WordIndex2();
        x.record();
        String[] texts = {"a", "b", "c", "d"};
        for (int kind = 0; kind < 4; kind++) {
            Check.write(x, 1, kind, texts[kind]);
        }
        int[] none = {-1, 4, 5, -4, 256, Check.LEAST, Check.MOST};
        for (int kind : none) {
            Check.write(x, 1, kind, "z");
            Check.due("FIELDS 0 .. 3: ask " + kind, Check.collect(x, "z").ask(kind), 0);
            Check.due("FIELDS 0 .. 3: phrase " + kind, Check.collect(x, "z").phrase(kind), 0);
            Check.due("FIELDS 0 .. 3: near " + kind, Check.collect(x, "z z").near(kind, 1), 0);
            Check.due("FIELDS 0 .. 3: wild " + kind, Check.collect(x, "z").wild(kind, false), 0);
            Check.due("FIELDS 0 .. 3: term " + kind, x.term(kind, 0, 0), -1);
            Check.due("FIELDS 0 .. 3: nearest " + kind, Check.collect(x, "z").nearest(kind), -1);
            Check.due("FIELDS 0 .. 3: language " + kind, x.language(kind, 0), -1);
        }
        for (int kind = 0; kind < 4; kind++) {
            Check.due("FIELDS 0 .. 3: " + kind, Check.terms(x, kind), texts[kind]);
        }
    }

    /**
     * The 1,500 signs are out of reach of 512 calls, of which alone the document promises answers;
     * here and in the next three the program keeps to them in calls that are free.
     */
    private static void signsAreAtMost1500InAll() {
        WordIndex2 x = new WordIndex2();
        x.record();
        x.record();
        for (int i = 0; i < 1498; i++) {
            x.field(1 + i % 2, i % 4, ' ');
        }
        Check.write(x, 2, 3, "ab");
        Check.due("at most 1,500 in all: 1,499 and 1,500", Check.terms(x, 3), "ab");
        Check.write(x, 2, 3, "c");
        Check.write(x, 1, 0, "c");
        Check.due("at most 1,500 in all: 1,501", Check.terms(x, 3), "ab");
        Check.due("at most 1,500 in all: 1,501", Check.terms(x, 0), "");
        WordIndex2 y = new WordIndex2();
        Check.add(y, 0, "a ".repeat(751));
        Check.due("at most 1,500 in all: words", Check.collect(y, "a").ask(0), 1);
        Check.due("at most 1,500 in all: words", Check.hits(y), "1:750=1/1");
    }

    /** As many different words as 1,500 signs can make. */
    private static void differentWordsOf1500Signs() {
        WordIndex2 x = new WordIndex2();
        x.record();
        for (int i = 0; i < 26; i++) {
            Check.write(x, 1, 0, (char) ('z' - i) + " ");
        }
        for (int i = 0; i < 482; i++) {
            Check.write(x, 1, 0, "" + (char) ('z' - i / 26) + (char) ('z' - i % 26) + " ");
        }
        Check.due("at most 1,500 in all: the last of 508 words", x.term(0, 507, 0), 'z');
        Check.due("at most 1,500 in all: the last of 508 words", x.term(0, 507, 1), 'z');
        Check.due("at most 1,500 in all: no 509th", x.term(0, 508, 0), -1);
    }

    private static void signsOfRemovedOnesCountToo() {
        WordIndex2 x = new WordIndex2();
        Check.add(x, 0, " ".repeat(1000));
        x.remove(1);
        Check.add(x, 1, " ".repeat(499) + "ab");
        Check.due("of REMOVED ones, too", Check.terms(x, 1), "a");
    }

    private static void refusedSignsDoNotCount() {
        WordIndex2 x = new WordIndex2();
        x.record();
        x.remove(1);
        for (int i = 0; i < 500; i++) {
            x.field(1, 0, 'z');
            x.field(2, 0, 'z');
            x.field(0, 0, 'z');
        }
        x.record();
        for (int i = 0; i < 750; i++) {
            x.field(2, 4, 'z');
            x.field(2, -1, 'z');
        }
        Check.write(x, 2, 0, " ".repeat(1498) + "abc");
        Check.due("at most 1,500 in all: refused ones are none", Check.terms(x, 0), "ab");
    }

    private static void wordsAreTheLongestRowsOfLetters() {
        WordIndex2 x = new WordIndex2();
        Check.add(x, 0, ",,ab  c,d1e");
        Check.due("the longest rows of letters", Check.terms(x, 0), "ab c d e");
        Check.write(x, 1, 0, "f");
        Check.due("the longest rows of letters: the last goes on", Check.terms(x, 0), "ab c d ef");
        Check.due("the longest rows of letters: no empty ones", Check.collect(x, "ef").ask(0), 1);
        Check.due("the longest rows of letters: no empty ones", Check.hits(x), "1:1=1/4");
        Check.write(x, 1, 1, ".,1");
        Check.due("the longest rows of letters: none", Check.terms(x, 1), "");
    }

    private static void lettersAreAToZ() {
        WordIndex2 x = new WordIndex2();
        x.record();
        for (int c = 0; c < 256; c++) {
            boolean letter = (c >= 'A' && c <= 'Z') || (c >= 'a' && c <= 'z');
            if (!letter) {
                x.field(1, 0, c);
            }
        }
        Check.due("A .. Z, a .. z: no other sign", x.term(0, 0, 0), -1);
        for (char c = 'a'; c <= 'z'; c++) {
            x.field(1, 1, c);
            x.field(1, 1, ' ');
            x.field(1, 2, c - 32);
            x.field(1, 2, ' ');
        }
        for (int i = 0; i < 26; i++) {
            Check.due("A .. Z, a .. z: small ones", x.term(1, i, 0), 'a' + i);
            Check.due("A .. Z, a .. z: great ones", x.term(2, i, 0), 'a' + i);
        }
    }

    private static void lettersAreSmallOnes() {
        WordIndex2 x = new WordIndex2();
        Check.add(x, 0, "CaT cAt AZ");
        Check.due("letters as small ones: field", Check.terms(x, 0), "az cat");
        Check.due("letters as small ones: question", Check.collect(x, "aZ CAT").ask(0), 1);
        Check.stop(x, "cAT");
        Check.due("letters as small ones: STOP word", Check.terms(x, 0), "az");
    }

    private static void wordsAreCutTo12() {
        WordIndex2 x = new WordIndex2();
        Check.add(x, 0, "abcdefghijk abcdefghijkl abcdefghijklm");
        Check.due("cut to 12: 11, 12 and 13", Check.terms(x, 0), "abcdefghijk abcdefghijkl");
        Check.due("cut to 12: question", Check.collect(x, "abcdefghijklzz").ask(0), 1);
        Check.due("cut to 12: the rest is no word", Check.hits(x), "1:2=2/3");
        Check.add(x, 1, "abcdefghijklabcdefghijklabcd e");
        Check.due("cut to 12: place", Check.collect(x, "abcdefghijkl e").phrase(1), 1);
        Check.due("cut to 12: place", Check.hits(x), "2:2=1/1");
    }

    private static void placesAre0And1AndOn() {
        WordIndex2 x = new WordIndex2();
        Check.add(x, 0, ",,a ,, 1 b");
        Check.due("PLACES are 0, 1, ..: phrase", Check.collect(x, "a b").phrase(0), 1);
        Check.due("PLACES are 0, 1, ..: near", Check.collect(x, "b a").near(0, 1), 1);
        Check.write(x, 1, 1, "b a");
        Check.due("PLACES are 0, 1, ..: in a field", Check.collect(x, "a b").phrase(1), 0);
    }

    private static void language0IsTheWord() {
        WordIndex2 x = new WordIndex2();
        Check.add(x, 0, "cats offen able s en e");
        Check.due("0: the word", Check.terms(x, 0), "able cats e en offen s");
    }

    private static void language1TakesLastSFromMoreThanThree() {
        WordIndex2 x = new WordIndex2();
        x.language(0, 1);
        Check.add(x, 0, "s as bus");
        Check.due("1: not of three", Check.terms(x, 0), "as bus s");
        Check.write(x, 1, 1, "cats busss sand abcdefghijks");
        x.language(1, 1);
        Check.due("1: of four, one letter, the last", Check.terms(x, 1), "abcdefghijk buss cat sand");
        x.language(2, 1);
        Check.write(x, 1, 2, "cart offen able");
        Check.due("1: if that is s", Check.terms(x, 2), "able cart offen");
    }

    private static void language2TakesEnFromMoreThanFour() {
        WordIndex2 x = new WordIndex2();
        x.language(0, 2);
        Check.add(x, 0, "en een open");
        Check.due("2: en, not of four", Check.terms(x, 0), "een en open");
        x.language(1, 2);
        Check.write(x, 1, 1, "offen lichtenen abcdefghijen");
        Check.due("2: en, of five, once", Check.terms(x, 1), "abcdefghij lichten off");
        x.language(2, 2);
        Check.write(x, 1, 2, "lichtn kitten open kaftan lichtem enxyz cats");
        Check.due("2: en at its end", Check.terms(x, 2), "cats enxyz kaftan kitt lichtem lichtn open");
    }

    private static void language2ElseTakesEFromMoreThanThree() {
        WordIndex2 x = new WordIndex2();
        x.language(0, 2);
        Check.add(x, 0, "e be abe");
        Check.due("2: e, not of three", Check.terms(x, 0), "abe be e");
        x.language(1, 2);
        Check.write(x, 1, 1, "able trees tree offene abcdefghijke");
        Check.due("2: e, of four, once", Check.terms(x, 1), "abcdefghijk abl offen tre trees");
        x.language(2, 2);
        Check.write(x, 1, 2, "lichteen");
        Check.due("2: not both", Check.terms(x, 2), "lichte");
    }

    private static void stemsAreOfTheWordThatIsCut() {
        WordIndex2 x = new WordIndex2();
        Check.add(x, 0, "abcdefghijkls");
        x.language(0, 1);
        Check.due("STEM of a word cut to 12: s was 13th", Check.terms(x, 0), "abcdefghijkl");
        Check.write(x, 1, 1, "abcdefghijksx");
        x.language(1, 1);
        Check.due("STEM of a word cut to 12: s is 12th", Check.terms(x, 1), "abcdefghijk");
        Check.write(x, 1, 2, "abcdefghijken");
        x.language(2, 2);
        Check.due("STEM of a word cut to 12: e is 12th", Check.terms(x, 2), "abcdefghijk");
    }

    private static void languageIsThatOfTheFieldAsItIsNow() {
        WordIndex2 x = new WordIndex2();
        x.language(0, 1);
        Check.add(x, 0, "cats tree");
        Check.write(x, 1, 1, "cats tree");
        Check.due("by the language of its field", Check.terms(x, 0), "cat tree");
        Check.due("by the language of its field", Check.terms(x, 1), "cats tree");
        x.language(0, 2);
        Check.due("as it is now", Check.terms(x, 0), "cats tre");
        Check.due("as it is now: ask", Check.collect(x, "cat").ask(0), 0);
        x.language(0, 0);
        Check.due("as it is now", Check.terms(x, 0), "cats tree");
    }

    private static void stopWordsAreStopWordsAsWords() {
        WordIndex2 x = new WordIndex2();
        x.language(0, 1);
        Check.stop(x, "cat dogs");
        Check.add(x, 0, "cat cats dog dogs");
        Check.due("as a word: field", Check.terms(x, 0), "cat dog");
        Check.due("as a word: question", Check.collect(x, "cats").ask(0), 1);
        Check.due("as a word: count", Check.hits(x), "1:1=1/4");
        Check.due("as a word: question", Check.collect(x, "dogs").ask(0), 0);
        Check.stop(x, "cats");
        Check.due("as a word: those before, too", Check.terms(x, 0), "dog");
    }

    private static void stopWordsHaveTheirPlace() {
        WordIndex2 x = new WordIndex2();
        Check.stop(x, "the");
        Check.add(x, 0, "a the b");
        Check.due("has none, but its place: phrase", Check.collect(x, "a b").phrase(0), 0);
        Check.due("has none, but its place: near", Check.collect(x, "a b").near(0, 1), 0);
        Check.due("has none, but its place: near", Check.collect(x, "a b").near(0, 2), 1);
        Check.due("has none, but its place: rank", Check.hits(x), "1:2=2/3");
        Check.due("has none: term", Check.terms(x, 0), "a b");
        Check.due("has none: ask", Check.collect(x, "the").ask(0), 0);
        Check.due("has none: wild", Check.collect(x, "th").wild(0, false), 0);
        Check.due("has none: nearest", Check.collect(x, "then").nearest(0), -1);
    }

    private static void questionIsWhatIsCollectedAsWords() {
        WordIndex2 x = new WordIndex2();
        Check.add(x, 0, "cat dog");
        Check.collect(x, "c");
        Check.write(x, 1, 0, " e");
        Check.collect(x, "at,,1d");
        x.record();
        Check.due("THE QUESTION is what is collected", Check.collect(x, "og ").ask(0), 1);
        Check.due("THE QUESTION is what is collected", Check.hits(x), "1:2=2/3");
    }

    private static void usingLeavesNothingCollected() {
        WordIndex2 x = new WordIndex2();
        Check.add(x, 0, "a b c d e f");
        Check.collect(x, "a ").ask(0);
        Check.due("leaves nothing collected: ask", x.ask(0), 0);
        Check.collect(x, "a ").phrase(0);
        Check.due("leaves nothing collected: phrase", x.ask(0), 0);
        Check.collect(x, "a b ").near(0, 1);
        Check.due("leaves nothing collected: near", x.ask(0), 0);
        Check.collect(x, "a").wild(0, false);
        Check.due("leaves nothing collected: wild", x.ask(0), 0);
        Check.collect(x, "a").nearest(0);
        Check.due("leaves nothing collected: nearest", x.ask(0), 0);
        Check.collect(x, "f").stop();
        Check.due("leaves nothing collected: stop", x.stop(), 1);
        Check.collect(x, "a").stop();
        Check.due("leaves nothing collected: no open word", Check.collect(x, "b").ask(0), 1);
    }

    private static void refusedUseLeavesNothingCollected() {
        WordIndex2 x = new WordIndex2();
        Check.add(x, 0, "a b ab");
        Check.collect(x, "a").ask(4);
        Check.due("leaves nothing collected: ask 4", x.ask(0), 0);
        Check.collect(x, "a").phrase(-1);
        Check.due("leaves nothing collected: phrase -1", x.ask(0), 0);
        Check.collect(x, "a b").near(0, 0);
        Check.due("leaves nothing collected: near 0", x.ask(0), 0);
        Check.collect(x, "a b").near(4, 1);
        Check.due("leaves nothing collected: near 4", x.ask(0), 0);
        Check.collect(x, "a").near(0, 1);
        Check.due("leaves nothing collected: near of one", x.ask(0), 0);
        Check.collect(x, "ab").wild(0, true);
        Check.due("leaves nothing collected: end of two", x.ask(0), 0);
        Check.collect(x, "ab").wild(4, false);
        Check.due("leaves nothing collected: wild 4", x.ask(0), 0);
        Check.collect(x, "a").nearest(4);
        Check.due("leaves nothing collected: nearest 4", x.ask(0), 0);
        Check.collect(x, " ".repeat(60)).ask(0);
        Check.due("leaves nothing collected: signs", Check.collect(x, " ".repeat(60) + "a").ask(0), 1);
    }

    private static void termsOfAQuestionAreByThatField() {
        WordIndex2 x = new WordIndex2();
        Check.add(x, 0, "cats");
        Check.write(x, 1, 1, "cats");
        Check.write(x, 1, 2, "tree");
        x.language(1, 1);
        x.language(2, 2);
        Check.due("by that field's language: 0", Check.collect(x, "cat").ask(0), 0);
        Check.due("by that field's language: 1", Check.collect(x, "cat").ask(1), 1);
        Check.due("by that field's language: 1", Check.collect(x, "cats").phrase(1), 1);
        Check.due("by that field's language: 2", Check.collect(x, "tre").ask(2), 1);
        Check.due("by that field's language: 2", Check.collect(x, "tree").ask(2), 1);
        Check.due("by that field's language: 0", Check.collect(x, "tree").ask(0), 0);
    }

    private static void meetingIsByTheTerm() {
        WordIndex2 x = new WordIndex2();
        Check.add(x, 0, "cat");
        Check.due("has that TERM: a beginning is none", Check.collect(x, "ca").ask(0), 0);
        Check.due("has that TERM: longer is none", Check.collect(x, "cats").ask(0), 0);
        Check.due("has that TERM", Check.collect(x, "cat").ask(0), 1);
        Check.due("has that TERM: in that field", Check.collect(x, "cat").ask(1), 0);
    }

    private static void hitsAreThere() {
        WordIndex2 x = new WordIndex2();
        Check.add(x, 0, "a b");
        Check.add(x, 0, "a b");
        Check.add(x, 0, "a b");
        x.remove(2);
        Check.due("records that are THERE: ask", Check.collect(x, "a").ask(0), 2);
        Check.due("records that are THERE: ask", Check.hits(x), "1:1=1/2 3:1=1/2");
        Check.due("records that are THERE: phrase", Check.collect(x, "a b").phrase(0), 2);
        Check.due("records that are THERE: near", Check.collect(x, "a b").near(0, 1), 2);
        Check.due("records that are THERE: wild", Check.collect(x, "a").wild(0, false), 2);
        x.remove(1);
        x.remove(3);
        Check.due("records that are THERE: none", Check.collect(x, "a").ask(0), 0);
    }

    private static void hitsAreByRankTheGreatestFirst() {
        WordIndex2 x = new WordIndex2();
        Check.add(x, 0, "a b b b");
        Check.add(x, 0, "a a b b a b b");
        Check.add(x, 0, "a b");
        Check.add(x, 0, "a a");
        Check.due("the greatest first", Check.collect(x, "a").ask(0), 4);
        Check.due("the greatest first, not the greatest COUNT", Check.hits(x),
            "4:2=1/1 3:1=1/2 2:3=3/7 1:1=1/4");
    }

    /** Two ranks that are 1/9,900 apart, which whole percents would not tell from one another. */
    private static void ranksAreComparedExactly() {
        WordIndex2 x = new WordIndex2();
        Check.add(x, 0, "a" + ",b".repeat(99));
        Check.add(x, 0, "a" + ",b".repeat(98));
        Check.due("by RANK: 1/100, 1/99", Check.collect(x, "a").ask(0), 2);
        Check.due("by RANK: 1/100, 1/99", Check.hits(x), "2:1=1/99 1:1=1/100");
    }

    private static void hitsOfOneRankAreByNumber() {
        WordIndex2 x = new WordIndex2();
        Check.add(x, 0, "a b b");
        Check.add(x, 0, "a a b b b b");
        Check.add(x, 0, "a");
        Check.add(x, 0, "b a b");
        Check.due("then by number", Check.collect(x, "a").ask(0), 4);
        Check.due("then by number, not by COUNT", Check.hits(x), "3:1=1/1 1:1=1/3 2:2=1/3 4:1=1/3");
    }

    private static void countIsOfPlaces() {
        WordIndex2 x = new WordIndex2();
        Check.add(x, 0, "a b a c a");
        Check.collect(x, "a a b").ask(0);
        Check.due("how many places: a word twice counts once", Check.hits(x), "1:4=4/5");
        Check.collect(x, "a b").phrase(0);
        Check.due("how many places: those beside the phrase, too", Check.hits(x), "1:4=4/5");
        Check.collect(x, "a b").near(0, 1);
        Check.due("how many places: those that are far, too", Check.hits(x), "1:4=4/5");
    }

    private static void rankIsDividedByAllWords() {
        WordIndex2 x = new WordIndex2();
        Check.stop(x, "the");
        Check.add(x, 0, "a the the b a");
        Check.write(x, 1, 1, "c c c");
        Check.collect(x, "a").ask(0);
        Check.due("how many words the field has: STOP words, too", Check.hits(x), "1:2=2/5");
    }

    private static void noneIsMinusOne() {
        Check.due("NONE = -1", WordIndex2.NONE, -1);
    }
}
