/**
 * The boundary cases that the promises 1 to 15 name, a method for each sentence or part of one, on
 * an object of its own and within the 512 calls that are promised.
 */
public final class EdgesOfCallsTest {
    private static final int[] NO_FIELDS = {-1, 4, Check.LEAST, Check.MOST};

    private EdgesOfCallsTest() {
    }

    public static void main(String[] args) {
        newObjects();
        records();
        fields();
        removals();
        signs();
        asks();
        phrases();
        nears();
        wilds();
        hits();
        ranks();
        terms();
        nearests();
        stops();
        languages();
        Check.end();
    }

    /** "cat" in field 0 of record 1, found: so that a later call that clears the hits is seen. */
    private static WordIndex2 withAHit(String text) {
        WordIndex2 x = new WordIndex2();
        Check.add(x, 0, text);
        Check.due("a hit", Check.collect(x, "cat").ask(0), 1);
        return x;
    }

    private static void newObjects() {
        WordIndex2 x = new WordIndex2();
        Check.due("1: no hits", x.hit(0, 0), 0);
        Check.due("1: no hits", x.hit(0, 1), 0);
        Check.due("1: no hits", x.rank(0, 0), -1);
        Check.due("1: no hits", x.rank(0, 1), -1);
        Check.due("1: no records", x.remove(1), 0);
        Check.due("1: no records", x.term(0, 0, 0), -1);
        Check.due("1: no records", Check.collect(x, "a").ask(0), 0);
        Check.due("1: nothing is collected, no STOP words", new WordIndex2().stop(), 0);
        for (int kind = 0; kind < 4; kind++) {
            Check.due("1: all languages 0", x.language(kind, 2), 0);
        }
        WordIndex2 y = new WordIndex2();
        Check.stop(y, "a");
        Check.add(y, 0, "b");
        Check.collect(y, "b").ask(0);
        Check.collect(y, "c");
        WordIndex2 z = new WordIndex2();
        Check.due("1: a second object: no hits", z.hit(0, 0), 0);
        Check.due("1: a second object: no STOP words", z.stop(), 0);
        Check.due("1: a second object: languages 0", z.language(0, 0), 0);
        Check.due("1: a second object: no records", z.record(), 1);
    }

    private static void records() {
        firstThirtyRecords();
        removedRecordsStayRecords();
        refusedRecordChangesNothing();
        newFieldsAreEmpty();
    }

    private static void firstThirtyRecords() {
        WordIndex2 x = new WordIndex2();
        for (int number = 1; number <= 30; number++) {
            Check.due("2: its number", x.record(), number);
        }
        Check.due("2: 0 if there are 30", x.record(), 0);
        Check.due("2: 0 if there are 30", x.record(), 0);
        Check.due("2: THERE", x.remove(30), 1);
    }

    private static void removedRecordsStayRecords() {
        WordIndex2 x = new WordIndex2();
        for (int number = 1; number <= 30; number++) {
            Check.due("2: its number, REMOVED ones counted", x.record(), number);
            x.remove(number);
        }
        Check.due("2: 0 if there are 30, all REMOVED", x.record(), 0);
    }

    private static void refusedRecordChangesNothing() {
        WordIndex2 x = new WordIndex2();
        for (int number = 1; number <= 30; number++) {
            Check.add(x, 0, "a");
        }
        Check.collect(x, "a");
        x.record();
        Check.due("2: nothing changes: the question", x.ask(0), 30);
        x.record();
        Check.due("2: nothing changes: the hits", x.hit(29, 0), 30);
        Check.due("2: nothing changes: the records", Check.collect(x, "a").ask(0), 30);
    }

    private static void newFieldsAreEmpty() {
        WordIndex2 x = new WordIndex2();
        Check.add(x, 0, "a");
        x.record();
        Check.due("2: empty fields", Check.collect(x, "a").ask(0), 1);
        x.remove(1);
        for (int kind = 0; kind < 4; kind++) {
            Check.due("2: empty fields " + kind, x.term(kind, 0, 0), -1);
        }
    }

    private static void fields() {
        lowestEightBitsOfAField();
        fieldsOfNoRecord();
        fieldsOfNoKind();
        fieldsOfARemovedRecord();
    }

    private static void lowestEightBitsOfAField() {
        WordIndex2 x = new WordIndex2();
        x.record();
        int[] as = {'a', 'a' + 256, 'a' - 256, 'A' + 65536, Check.LEAST + 'a', Check.MOST - 255 + 'A'};
        for (int c : as) {
            x.field(1, 0, c);
        }
        Check.due("3: the lowest eight bits: letters", Check.terms(x, 0), "aaaaaa");
        int[] others = {0, 255, 256, 'a' + 128, 'A' + 128, -1, Check.LEAST, Check.MOST};
        for (int c : others) {
            x.field(1, 1, c);
            x.field(1, 1, 'b');
        }
        Check.due("3: the lowest eight bits: no letters", Check.collect(x, "b").ask(1), 1);
        Check.due("3: the lowest eight bits: no letters", Check.hits(x), "1:8=1/1");
    }

    private static void fieldsOfNoRecord() {
        WordIndex2 x = new WordIndex2();
        x.field(1, 0, 'z');
        x.record();
        Check.due("3: nothing if there is none yet", x.term(0, 0, 0), -1);
        x.field(2, 0, 'z');
        int[] none = {0, -1, 3, 30, 31, Check.LEAST, Check.MOST};
        for (int record : none) {
            x.field(record, 0, 'z');
        }
        Check.due("3: nothing if there is none such", x.term(0, 0, 0), -1);
        Check.due("3: nothing if there is none such: no record came", x.record(), 2);
        Check.due("3: nothing if there is none such", x.term(0, 0, 0), -1);
    }

    private static void fieldsOfNoKind() {
        WordIndex2 x = new WordIndex2();
        x.record();
        for (int kind : NO_FIELDS) {
            x.field(1, kind, 'z');
        }
        for (int kind = 0; kind < 4; kind++) {
            Check.due("3: nothing if there is no such field", x.term(kind, 0, 0), -1);
        }
        x.field(1, 0, 'a');
        x.field(1, 4, ' ');
        x.field(1, 0, 'b');
        Check.due("3: nothing, no end of a word either", Check.terms(x, 0), "ab");
    }

    private static void fieldsOfARemovedRecord() {
        WordIndex2 x = new WordIndex2();
        Check.add(x, 0, "a");
        x.remove(1);
        Check.write(x, 1, 0, " b");
        Check.due("3: nothing if it is REMOVED", x.term(0, 0, 0), -1);
        Check.due("3: nothing if it is REMOVED", Check.collect(x, "b").ask(0), 0);
        Check.due("3: nothing if it is REMOVED: it stays so", x.remove(1), 0);
    }

    private static void removals() {
        WordIndex2 x = new WordIndex2();
        Check.due("4: 0 if there is none yet", x.remove(1), 0);
        Check.add(x, 0, "a");
        Check.add(x, 0, "a");
        int[] none = {0, -1, 3, 30, 31, Check.LEAST, Check.MOST};
        for (int record : none) {
            Check.due("4: 0 if there is none such: " + record, x.remove(record), 0);
        }
        Check.due("4: 0, and nothing is REMOVED", Check.collect(x, "a").ask(0), 2);
        Check.due("4: REMOVED", x.remove(1), 1);
        Check.due("4: 0 if it is", x.remove(1), 0);
        Check.due("4: the other one is THERE", Check.collect(x, "a").ask(0), 1);
        Check.due("4: the other one is THERE", Check.hits(x), "2:1=1/1");
        Check.due("4: REMOVED, the last", x.remove(2), 1);
        Check.due("4: 0 if it is", x.remove(2), 0);
        Check.due("4: 0 of one that comes later", x.remove(3), 0);
        Check.due("4: one that comes later", x.record(), 3);
        Check.due("4: REMOVED, though it is empty", x.remove(3), 1);
    }

    private static void signs() {
        lowestEightBitsOfASign();
        hundredSigns();
        hundredSignsOfWords();
    }

    private static void lowestEightBitsOfASign() {
        WordIndex2 x = new WordIndex2();
        Check.add(x, 0, "aaaaaa b");
        int[] as = {'a', 'a' + 256, 'a' - 256, 'A' + 65536, Check.LEAST + 'a', Check.MOST - 255 + 'A'};
        for (int c : as) {
            x.sign(c);
        }
        Check.due("5: the lowest eight bits: letters", x.phrase(0), 1);
        int[] others = {0, 255, 256, 'a' + 128, 'A' + 128, -1, Check.LEAST, Check.MOST};
        for (int c : others) {
            x.sign('b');
            x.sign(c);
        }
        Check.due("5: the lowest eight bits: no letters", x.ask(0), 1);
        Check.due("5: the lowest eight bits: no letters", Check.hits(x), "1:1=1/2");
    }

    private static void hundredSigns() {
        WordIndex2 x = new WordIndex2();
        Check.add(x, 0, "ab");
        Check.write(x, 1, 1, "abc");
        Check.collect(x, " ".repeat(98) + "ab");
        x.sign('c');
        Check.due("5: beyond 100 it is lost: letter", x.ask(0), 1);
        Check.collect(x, " ".repeat(97) + "abc");
        Check.due("5: the 100th is not", x.ask(1), 1);
        Check.collect(x, "ab" + " ".repeat(98));
        Check.collect(x, "c");
        Check.due("5: beyond 100 it is lost, after others too", x.ask(0), 1);
    }

    private static void hundredSignsOfWords() {
        WordIndex2 x = new WordIndex2();
        Check.add(x, 0, "a b");
        Check.due("5: 50 words", Check.collect(x, "a ".repeat(50) + "b c").ask(0), 1);
        Check.due("5: the 51st is lost", Check.hits(x), "1:1=1/2");
        Check.due("5: 50 words", Check.collect(x, " a".repeat(49) + " b c").ask(0), 1);
        Check.due("5: the 50th is not", Check.hits(x), "1:2=1/1");
    }

    private static void asks() {
        WordIndex2 x = withAHit("cat");
        Check.due("6: 0 if it has none", x.ask(0), 0);
        Check.due("6: no hits then", Check.hits(x), "");
        x = withAHit("cat");
        Check.due("6: 0 if it has none, of signs", Check.collect(x, "1 ,").ask(0), 0);
        Check.due("6: no hits then", Check.hits(x), "");
        x = withAHit("cat the");
        Check.stop(x, "the of");
        Check.due("6: 0 if all its words are STOP words", Check.collect(x, "the of the").ask(0), 0);
        Check.due("6: no hits then", Check.hits(x), "");
        Check.due("6: not all", Check.collect(x, "the cat of").ask(0), 1);
        for (int kind : NO_FIELDS) {
            x = withAHit("cat");
            Check.due("6: 0 if there is no such field", Check.collect(x, "cat").ask(kind), 0);
            Check.due("6: no hits then", Check.hits(x), "");
            Check.due("6: no hits then", x.rank(0, 1), -1);
        }
        x = withAHit("cat");
        Check.due("6: each of its words: the last", Check.collect(x, "cat dog").ask(0), 0);
        Check.due("6: no hits then", Check.hits(x), "");
        Check.due("6: each of its words: the first", Check.collect(x, "dog cat").ask(0), 0);
        Check.stop(x, "the");
        Check.due("6: each but STOP words", Check.collect(x, "the cat").ask(0), 1);
        Check.due("6: an empty field", Check.collect(x, "cat").ask(1), 0);
    }

    private static void phrases() {
        phrasesAsAsk();
        phraseOfTheWholeField();
        phrasePlacesGoUp();
        phraseStopWordsMustBeThere();
        phraseStopWordStandsForAnyWord();
    }

    private static void phrasesAsAsk() {
        WordIndex2 x = withAHit("cat");
        Check.due("7: as ask: no words", Check.collect(x, ", ").phrase(0), 0);
        Check.due("7: as ask: no hits then", Check.hits(x), "");
        x = withAHit("cat the the");
        Check.stop(x, "the of");
        Check.due("7: as ask: all STOP words", Check.collect(x, "the").phrase(0), 0);
        Check.due("7: as ask: no hits then", Check.hits(x), "");
        Check.due("7: as ask: all STOP words", Check.collect(x, "the of").phrase(0), 0);
        for (int kind : NO_FIELDS) {
            x = withAHit("cat");
            Check.due("7: as ask: no such field", Check.collect(x, "cat").phrase(kind), 0);
            Check.due("7: as ask: no hits then", Check.hits(x), "");
        }
    }

    private static void phraseOfTheWholeField() {
        WordIndex2 x = new WordIndex2();
        Check.add(x, 0, "a b c");
        Check.due("7: the whole field", Check.collect(x, "a b c").phrase(0), 1);
        Check.due("7: one word more, behind", Check.collect(x, "a b c a").phrase(0), 0);
        Check.due("7: one word more, in front", Check.collect(x, "c a b c").phrase(0), 0);
        Check.due("7: its first place", Check.collect(x, "a").phrase(0), 1);
        Check.due("7: its last place", Check.collect(x, "c").phrase(0), 1);
        Check.due("7: its last places", Check.collect(x, "b c").phrase(0), 1);
        Check.due("7: no wrap-around", Check.collect(x, "c a").phrase(0), 0);
        Check.due("7: an empty field", Check.collect(x, "a").phrase(1), 0);
    }

    private static void phrasePlacesGoUp() {
        WordIndex2 x = new WordIndex2();
        Check.add(x, 0, "a b b a a b c");
        Check.due("7: a second try", Check.collect(x, "a b c").phrase(0), 1);
        Check.due("7: hits", Check.hits(x), "1:7=1/1");
        Check.due("7: one behind the other", Check.collect(x, "a c").phrase(0), 0);
        Check.due("7: up, not down", Check.collect(x, "c b").phrase(0), 0);
        Check.due("7: the same TERM at two places", Check.collect(x, "b b").phrase(0), 1);
        Check.due("7: not at one", Check.collect(x, "c c").phrase(0), 0);
        Check.due("7: not at three", Check.collect(x, "a a a").phrase(0), 0);
    }

    private static void phraseStopWordsMustBeThere() {
        WordIndex2 x = new WordIndex2();
        Check.stop(x, "the");
        Check.add(x, 0, "a b");
        Check.due("7: which must be there: in front", Check.collect(x, "the a").phrase(0), 0);
        Check.due("7: which must be there: in front", Check.collect(x, "the b").phrase(0), 1);
        Check.due("7: which must be there: two in front", Check.collect(x, "the the b").phrase(0), 0);
        Check.due("7: which must be there: behind", Check.collect(x, "b the").phrase(0), 0);
        Check.due("7: which must be there: behind", Check.collect(x, "a the").phrase(0), 1);
        Check.due("7: which must be there: between", Check.collect(x, "a the b").phrase(0), 0);
        Check.due("7: which must be there: hits", Check.hits(x), "");
    }

    private static void phraseStopWordStandsForAnyWord() {
        WordIndex2 x = new WordIndex2();
        Check.stop(x, "the of");
        Check.add(x, 0, "a the b");
        Check.add(x, 0, "a c b");
        Check.add(x, 0, "a a the b b");
        Check.add(x, 0, "a of b");
        Check.due("7: any word", Check.collect(x, "a the b").phrase(0), 4);
        Check.due("7: which counts nothing", Check.hits(x), "3:4=4/5 1:2=2/3 2:2=2/3 4:2=2/3");
        Check.due("7: two of them", Check.collect(x, "a of the b").phrase(0), 1);
        Check.due("7: two of them", Check.hits(x), "3:4=4/5");
        Check.due("7: a STOP word is not left out", Check.collect(x, "a b").phrase(0), 0);
    }

    private static void nears() {
        nearDistances();
        nearAsAsk();
        nearWithoutTwoWords();
        nearAtOnePlace();
        nearInWhateverOrder();
    }

    private static void nearDistances() {
        int[] small = {0, -1, -2, Check.LEAST};
        for (int distance : small) {
            WordIndex2 x = withAHit("cat dog");
            Check.due("8: 0 if it is below 1", Check.collect(x, "cat dog").near(0, distance), 0);
            Check.due("8: no hits then", Check.hits(x), "");
        }
        WordIndex2 x = new WordIndex2();
        Check.add(x, 0, "a b c d");
        Check.due("8: 1", Check.collect(x, "a b").near(0, 1), 1);
        Check.due("8: no farther than 1", Check.collect(x, "a c").near(0, 1), 0);
        Check.due("8: no farther than 2", Check.collect(x, "a c").near(0, 2), 1);
        Check.due("8: no farther than 2", Check.collect(x, "a d").near(0, 2), 0);
        Check.due("8: no farther than 3", Check.collect(x, "d a").near(0, 3), 1);
        Check.due("8: no farther than the farthest", Check.collect(x, "d a").near(0, Check.MOST), 1);
    }

    private static void nearAsAsk() {
        for (int kind : NO_FIELDS) {
            WordIndex2 x = withAHit("cat dog");
            Check.due("8: as ask: no such field", Check.collect(x, "cat dog").near(kind, 1), 0);
            Check.due("8: as ask: no hits then", Check.hits(x), "");
        }
        WordIndex2 x = withAHit("cat dog");
        Check.due("8: as ask: an empty field", Check.collect(x, "cat dog").near(1, 9), 0);
        Check.due("8: as ask: no hits then", Check.hits(x), "");
    }

    private static void nearWithoutTwoWords() {
        String[] none = {"", "cat", "the", "the cat", "cat the", "cat the dog", "the cat dog", "the of"};
        for (String text : none) {
            WordIndex2 x = withAHit("cat dog the of");
            Check.stop(x, "the of");
            Check.due("8: not two such: " + text, Check.collect(x, text).near(0, 9), 0);
            Check.due("8: no hits then: " + text, Check.hits(x), "");
        }
        WordIndex2 x = withAHit("cat dog the of");
        Check.stop(x, "the of");
        Check.due("8: the first two", Check.collect(x, "cat dog the").near(0, 1), 1);
        Check.due("8: the first two", Check.collect(x, "dog cat mouse").near(0, 1), 1);
        Check.due("8: the first two", Check.hits(x), "1:2=1/2");
        Check.due("8: not two such, after a question of two", Check.collect(x, "dog").near(0, 1), 0);
        Check.due("8: no hits then", Check.hits(x), "");
    }

    private static void nearAtOnePlace() {
        WordIndex2 x = new WordIndex2();
        x.language(0, 1);
        Check.add(x, 0, "cats b");
        Check.due("8: not the same place", Check.collect(x, "cat cat").near(0, 9), 0);
        Check.due("8: not the same place, of one TERM", Check.collect(x, "cat cats").near(0, 9), 0);
        Check.write(x, 1, 0, " c cat");
        Check.due("8: two places of one TERM", Check.collect(x, "cat cats").near(0, 2), 0);
        Check.due("8: two places of one TERM", Check.collect(x, "cat cats").near(0, 3), 1);
        Check.due("8: two places of one TERM", Check.hits(x), "1:2=1/2");
    }

    private static void nearInWhateverOrder() {
        WordIndex2 x = new WordIndex2();
        Check.add(x, 0, "a b");
        Check.add(x, 0, "b a");
        Check.add(x, 0, "a");
        Check.add(x, 0, "a c c b a");
        Check.due("8: in whatever order", Check.collect(x, "a b").near(0, 1), 3);
        Check.due("8: in whatever order", Check.hits(x), "1:2=1/1 2:2=1/1 4:3=3/5");
        Check.due("8: in whatever order", Check.collect(x, "b a").near(0, 1), 3);
    }

    private static void wilds() {
        wildWithoutAWord();
        wildAsAsk();
        wildBeginnings();
        wildEndsOfLessThanThree();
        wildEnds();
        wildWordsAsTheyAre();
    }

    private static void wildWithoutAWord() {
        boolean[] sides = {false, true};
        for (boolean end : sides) {
            WordIndex2 x = withAHit("cat");
            Check.due("9: 0 without a word", x.wild(0, end), 0);
            Check.due("9: no hits then", Check.hits(x), "");
            x = withAHit("cat");
            Check.due("9: 0 without a word, of signs", Check.collect(x, "1,@").wild(0, end), 0);
            Check.due("9: no hits then", Check.hits(x), "");
        }
    }

    private static void wildAsAsk() {
        for (int kind : NO_FIELDS) {
            WordIndex2 x = withAHit("cat");
            Check.due("9: as ask: no such field", Check.collect(x, "cat").wild(kind, false), 0);
            Check.due("9: as ask: no hits then", Check.hits(x), "");
            x = withAHit("cat");
            Check.due("9: as ask: no such field", Check.collect(x, "cat").wild(kind, true), 0);
            Check.due("9: as ask: no hits then", Check.hits(x), "");
        }
        WordIndex2 x = withAHit("cat");
        Check.due("9: as ask: an empty field", Check.collect(x, "cat").wild(1, false), 0);
        Check.due("9: as ask: no hits then", Check.hits(x), "");
    }

    private static void wildBeginnings() {
        WordIndex2 x = new WordIndex2();
        Check.add(x, 0, "cat catalog ca scat abcdefghijkl");
        Check.due("9: one letter", Check.collect(x, "c").wild(0, false), 1);
        Check.due("9: one letter", Check.hits(x), "1:3=3/5");
        Check.due("9: the whole TERM", Check.collect(x, "cat").wild(0, false), 1);
        Check.due("9: the whole TERM", Check.hits(x), "1:2=2/5");
        Check.due("9: longer than each", Check.collect(x, "catalogs").wild(0, false), 0);
        Check.due("9: not the end", Check.collect(x, "log").wild(0, false), 0);
        Check.due("9: twelve letters", Check.collect(x, "abcdefghijklm").wild(0, false), 1);
        Check.due("9: twelve letters, another", Check.collect(x, "abcdefghijkx").wild(0, false), 0);
        Check.due("9: eleven letters", Check.collect(x, "abcdefghijk").wild(0, false), 1);
        Check.due("9: its first word", Check.collect(x, "x cat").wild(0, false), 0);
        Check.due("9: its first word alone", Check.collect(x, "s cat").wild(0, false), 1);
        Check.due("9: its first word alone", Check.hits(x), "1:1=1/5");
    }

    private static void wildEndsOfLessThanThree() {
        WordIndex2 x = withAHit("cat at t");
        Check.due("9: an end of one letter", Check.collect(x, "t").wild(0, true), 0);
        Check.due("9: no hits then", Check.hits(x), "");
        x = withAHit("cat at t");
        Check.due("9: an end of two letters", Check.collect(x, "at").wild(0, true), 0);
        Check.due("9: no hits then", Check.hits(x), "");
        Check.due("9: an end of two letters, then more", Check.collect(x, "at cat").wild(0, true), 0);
        Check.due("9: an end of three letters", Check.collect(x, "cat").wild(0, true), 1);
        Check.due("9: an end of three letters", Check.hits(x), "1:1=1/3");
        Check.due("9: a beginning of two letters", Check.collect(x, "at").wild(0, false), 1);
    }

    private static void wildEnds() {
        WordIndex2 x = new WordIndex2();
        Check.add(x, 0, "art cart smart arts abcdefghijkl rt");
        Check.due("9: the whole TERM", Check.collect(x, "art").wild(0, true), 1);
        Check.due("9: the whole TERM", Check.hits(x), "1:3=1/2");
        Check.due("9: longer than each", Check.collect(x, "ssmart").wild(0, true), 0);
        Check.due("9: not the beginning", Check.collect(x, "sma").wild(0, true), 0);
        Check.due("9: twelve letters", Check.collect(x, "abcdefghijklm").wild(0, true), 1);
        Check.due("9: eleven letters", Check.collect(x, "bcdefghijkl").wild(0, true), 1);
        Check.due("9: twelve letters, another", Check.collect(x, "xbcdefghijkl").wild(0, true), 0);
        Check.due("9: its first word", Check.collect(x, "xxx art").wild(0, true), 0);
        Check.write(x, 1, 1, "zyxwvutsrqpo");
        Check.due("9: twelve late letters", Check.collect(x, "zyxwvutsrqpo").wild(1, true), 1);
        Check.due("9: twelve late letters, another", Check.collect(x, "zyxwvutsrqpn").wild(1, true), 0);
        Check.due("9: three late letters", Check.collect(x, "qpo").wild(1, true), 1);
    }

    private static void wildWordsAsTheyAre() {
        WordIndex2 x = new WordIndex2();
        x.language(0, 1);
        Check.add(x, 0, "cats catss the then");
        Check.due("9: taken as it is", Check.collect(x, "cats").wild(0, false), 1);
        Check.due("9: taken as it is", Check.hits(x), "1:1=1/4");
        Check.due("9: taken as it is", Check.collect(x, "ats").wild(0, true), 1);
        Check.due("9: taken as it is", Check.hits(x), "1:1=1/4");
        Check.stop(x, "the");
        Check.due("9: a STOP word as it is", Check.collect(x, "the").wild(0, false), 1);
        Check.due("9: which has no TERM in a field", Check.hits(x), "1:1=1/4");
    }

    private static void hits() {
        hitsThatAreNone();
        hitsOfAnotherWhat();
        hitsAsTheyWereFound();
        hitsOfTheLatestQuestion();
    }

    private static void hitsThatAreNone() {
        WordIndex2 x = new WordIndex2();
        Check.add(x, 0, "cat cat dog");
        Check.add(x, 0, "cat");
        Check.collect(x, "cat").ask(0);
        Check.due("10: from 0 on", x.hit(0, 0), 2);
        Check.due("10: its COUNT", x.hit(0, 1), 1);
        Check.due("10: the last", x.hit(1, 0), 1);
        Check.due("10: the last, its COUNT", x.hit(1, 1), 2);
        int[] none = {-1, 2, 3, 29, 30, 31, Check.LEAST, Check.MOST};
        for (int i : none) {
            Check.due("10: 0 if there is none such: " + i, x.hit(i, 0), 0);
            Check.due("10: 0 if there is none such: " + i, x.hit(i, 1), 0);
        }
        Check.collect(x, "dog").ask(0);
        Check.due("10: of fewer than before", x.hit(0, 0), 1);
        Check.due("10: 0 beyond fewer than before", x.hit(1, 0), 0);
        Check.due("10: 0 beyond fewer than before", x.hit(1, 1), 0);
    }

    private static void hitsOfAnotherWhat() {
        WordIndex2 x = withAHit("cat");
        int[] others = {-1, 2, 3, 256, Check.LEAST, Check.MOST};
        for (int what : others) {
            Check.due("10: 0 for another what: " + what, x.hit(0, what), 0);
            Check.due("10: 0 for another what, none such: " + what, x.hit(1, what), 0);
        }
    }

    private static void hitsAsTheyWereFound() {
        WordIndex2 x = withAHit("cat dog");
        Check.write(x, 1, 0, " cat");
        Check.due("10: as it was found: field", Check.hits(x), "1:1=1/2");
        Check.add(x, 0, "cat");
        Check.due("10: as it was found: record", Check.hits(x), "1:1=1/2");
        x.language(0, 1);
        Check.due("10: as it was found: language", Check.hits(x), "1:1=1/2");
        Check.stop(x, "cat");
        Check.due("10: as it was found: stop", Check.hits(x), "1:1=1/2");
        x.remove(1);
        Check.due("10: as it was found: remove", Check.hits(x), "1:1=1/2");
        Check.collect(x, "x");
        Check.due("10: as it was found: sign", Check.hits(x), "1:1=1/2");
        x.nearest(0);
        Check.due("10: as it was found: nearest", Check.hits(x), "1:1=1/2");
        x.term(0, 0, 0);
        Check.due("10: as it was found: term", Check.hits(x), "1:1=1/2");
    }

    private static void hitsOfTheLatestQuestion() {
        WordIndex2 x = withAHit("cat dog dog");
        Check.collect(x, "dog").phrase(0);
        Check.due("10: the latest: phrase", Check.hits(x), "1:2=2/3");
        Check.collect(x, "cat dog").near(0, 1);
        Check.due("10: the latest: near", Check.hits(x), "1:3=1/1");
        Check.collect(x, "c").wild(0, false);
        Check.due("10: the latest: wild", Check.hits(x), "1:1=1/3");
        Check.collect(x, "dog").ask(0);
        Check.due("10: the latest: ask", Check.hits(x), "1:2=2/3");
        Check.collect(x, "mouse").ask(0);
        Check.due("10: the latest, without hits", Check.hits(x), "");
    }

    private static void ranks() {
        WordIndex2 x = new WordIndex2();
        Check.add(x, 0, "a b a b a b");
        Check.add(x, 0, "a a a");
        Check.add(x, 0, "a a a a a a b b b b");
        Check.add(x, 0, "a a b b b b b");
        Check.collect(x, "a").ask(0);
        Check.due("11: in least terms", Check.hits(x), "2:3=1/1 3:6=3/5 1:3=1/2 4:2=2/7");
        Check.due("11: side 0", x.rank(1, 0), 3);
        int[] sides = {1, 2, -1, 256, Check.LEAST, Check.MOST};
        for (int side : sides) {
            Check.due("11: else below the line: " + side, x.rank(1, side), 5);
        }
        int[] none = {-1, 4, 5, 29, 30, 31, Check.LEAST, Check.MOST};
        for (int i : none) {
            Check.due("11: NONE if there is none such: " + i, x.rank(i, 0), -1);
            Check.due("11: NONE if there is none such: " + i, x.rank(i, 1), -1);
            Check.due("11: NONE if there is none such: " + i, x.rank(i, 2), -1);
        }
        Check.write(x, 2, 0, " b");
        x.remove(3);
        Check.due("11: as it was found", Check.hits(x), "2:3=1/1 3:6=3/5 1:3=1/2 4:2=2/7");
        Check.collect(x, "c").ask(0);
        Check.due("11: NONE without hits", x.rank(0, 0), -1);
        Check.due("11: NONE without hits", x.rank(0, 1), -1);
    }

    private static void terms() {
        termLetters();
        termsThatAreNone();
        termsByTheirLetters();
        termsOfRecordsThatAreThere();
        termLeavesTheQuestion();
    }

    private static void termLetters() {
        WordIndex2 x = new WordIndex2();
        Check.add(x, 0, "cat abcdefghijklm");
        Check.due("12: letter 0", x.term(0, 1, 0), 'c');
        Check.due("12: the last letter", x.term(0, 1, 2), 't');
        Check.due("12: 0 past its end", x.term(0, 1, 3), 0);
        Check.due("12: 0 past its end", x.term(0, 1, 12), 0);
        Check.due("12: 0 past its end", x.term(0, 1, Check.MOST), 0);
        Check.due("12: the twelfth letter", x.term(0, 0, 11), 'l');
        Check.due("12: 0 past the twelfth", x.term(0, 0, 12), 0);
        Check.due("12: 0 past the twelfth", x.term(0, 0, 13), 0);
        Check.write(x, 1, 1, "zyxwvutsrqpo");
        Check.due("12: the twelfth letter", x.term(1, 0, 11), 'o');
        Check.due("12: 0 past the twelfth, of late letters", x.term(1, 0, 12), 0);
        Check.due("12: 0 past the twelfth, of late letters", x.term(1, 0, 13), 0);
        Check.due("12: NONE, a letter before 0", x.term(0, 1, -1), -1);
        Check.due("12: NONE, a letter before 0", x.term(0, 1, Check.LEAST), -1);
        x.language(0, 1);
        Check.write(x, 1, 0, " dogs");
        Check.due("12: 0 past the end of a STEM", x.term(0, 2, 3), 0);
    }

    private static void termsThatAreNone() {
        WordIndex2 x = new WordIndex2();
        Check.add(x, 0, "a b");
        int[] none = {-1, 2, 3, 750, Check.LEAST, Check.MOST};
        for (int i : none) {
            Check.due("12: NONE if there is none such: " + i, x.term(0, i, 0), -1);
            Check.due("12: NONE, past an end too: " + i, x.term(0, i, 12), -1);
        }
        for (int kind : NO_FIELDS) {
            Check.due("12: NONE if there is no such field: " + kind, x.term(kind, 0, 0), -1);
        }
        Check.due("12: NONE of an empty field", x.term(1, 0, 0), -1);
        Check.stop(x, "a b");
        Check.due("12: NONE of STOP words alone", x.term(0, 0, 0), -1);
    }

    private static void termsByTheirLetters() {
        WordIndex2 x = new WordIndex2();
        Check.add(x, 0, "cats cat b cat");
        Check.add(x, 0, "ca catalog az B c z");
        Check.due("12: different, a beginning first", Check.terms(x, 0), "az b c ca cat catalog cats z");
        x.language(0, 1);
        Check.due("12: different TERMS", Check.terms(x, 0), "az b c ca cat catalog z");
    }

    private static void termsOfRecordsThatAreThere() {
        WordIndex2 x = new WordIndex2();
        Check.add(x, 0, "a b");
        Check.add(x, 0, "b c");
        Check.write(x, 2, 1, "d");
        Check.due("12: in a field", Check.terms(x, 0), "a b c");
        x.remove(1);
        Check.due("12: THERE", Check.terms(x, 0), "b c");
        x.remove(2);
        Check.due("12: none is THERE", Check.terms(x, 0), "");
        Check.due("12: none is THERE", Check.terms(x, 1), "");
    }

    private static void termLeavesTheQuestion() {
        WordIndex2 x = withAHit("cat");
        Check.collect(x, "cat");
        x.term(0, 0, 0);
        x.term(4, 0, 0);
        Check.due("12: the question stays", x.ask(0), 1);
    }

    private static void nearests() {
        nearestDistances();
        nearestAtBothEnds();
        nearestOfTwelveLetters();
        nearestOfSeveral();
        nearestWithoutOne();
        nearestWordAsItIs();
    }

    private static void nearestDistances() {
        WordIndex2 x = new WordIndex2();
        Check.add(x, 0, "a mouse");
        Check.due("13: 0", Check.collect(x, "mouse").nearest(0), 1);
        Check.due("13: 1 to put in", Check.collect(x, "mose").nearest(0), 1);
        Check.due("13: 1 to take out", Check.collect(x, "mouuse").nearest(0), 1);
        Check.due("13: 1 to change", Check.collect(x, "moose").nearest(0), 1);
        Check.due("13: 2 to put in", Check.collect(x, "mue").nearest(0), 1);
        Check.due("13: 2 to take out", Check.collect(x, "moouuse").nearest(0), 1);
        Check.due("13: 2 to change", Check.collect(x, "maase").nearest(0), 1);
        Check.due("13: 2, two letters that change places", Check.collect(x, "muose").nearest(0), 1);
        Check.due("13: 2, one of each", Check.collect(x, "ousex").nearest(0), 1);
        Check.due("13: 3 to take out", Check.collect(x, "mouseabc").nearest(0), -1);
        Check.due("13: 3 to change", Check.collect(x, "mxxxe").nearest(0), -1);
        Check.due("13: 3, one of each", Check.collect(x, "ouxex").nearest(0), -1);
        Check.due("13: 2 of 3 letters", Check.collect(x, "bca").nearest(0), 0);
        Check.due("13: 3 of 4 letters", Check.collect(x, "bcda").nearest(0), -1);
    }

    private static void nearestAtBothEnds() {
        WordIndex2 x = new WordIndex2();
        Check.add(x, 0, "house");
        String[] near = {"ouse", "hous", "use", "hou", "xhouse", "housex", "xxhouse", "housexx",
            "xouse", "housx", "xxuse", "houxx", "xhousex", "ous", "xous"};
        for (String word : near) {
            Check.due("13: 2 at most: " + word, Check.collect(x, word).nearest(0), 0);
        }
        String[] far = {"se", "ho", "xxxhouse", "housexxx", "xxxse", "xxhousex", "xoux", "h"};
        for (String word : far) {
            Check.due("13: more than 2: " + word, Check.collect(x, word).nearest(0), -1);
        }
        Check.due("13: 0", Check.collect(x, "house").nearest(0), 0);
        Check.due("13: more than 2, after 0", Check.collect(x, "h").nearest(0), -1);
    }

    private static void nearestOfTwelveLetters() {
        WordIndex2 x = new WordIndex2();
        Check.add(x, 0, "abcdefghijkl");
        Check.due("13: 12, cut", Check.collect(x, "abcdefghijklmnop").nearest(0), 0);
        Check.due("13: 12, 2", Check.collect(x, "bcdefghijklm").nearest(0), 0);
        Check.due("13: 12, 3", Check.collect(x, "xcdefghijklm").nearest(0), -1);
        Check.due("13: 10, 2", Check.collect(x, "cdefghijkl").nearest(0), 0);
        Check.due("13: 9, 3", Check.collect(x, "defghijkl").nearest(0), -1);
        Check.due("13: 12, all others", Check.collect(x, "zzzzzzzzzzzz").nearest(0), -1);
    }

    private static void nearestOfSeveral() {
        WordIndex2 x = new WordIndex2();
        Check.add(x, 0, "rat bat cart");
        Check.add(x, 0, "bat cat abat");
        Check.due("13: by letters", Check.terms(x, 0), "abat bat cart cat rat");
        Check.due("13: of several the first", Check.collect(x, "mat").nearest(0), 1);
        Check.due("13: the nearest, not the first", Check.collect(x, "cat").nearest(0), 3);
        Check.due("13: the nearest, not the first", Check.collect(x, "cara").nearest(0), 2);
        Check.due("13: the last", Check.collect(x, "rats").nearest(0), 4);
        x.remove(1);
        Check.due("13: among those", Check.collect(x, "rats").nearest(0), 1);
    }

    private static void nearestWithoutOne() {
        WordIndex2 x = new WordIndex2();
        Check.due("13: NONE without records", Check.collect(x, "a").nearest(0), -1);
        Check.add(x, 0, "a");
        Check.due("13: NONE without a word", x.nearest(0), -1);
        Check.due("13: NONE without a word, of signs", Check.collect(x, "1 ").nearest(0), -1);
        for (int kind : NO_FIELDS) {
            Check.due("13: NONE without the field", Check.collect(x, "a").nearest(kind), -1);
        }
        Check.due("13: NONE of an empty field", Check.collect(x, "a").nearest(1), -1);
        Check.due("13: one", Check.collect(x, "b").nearest(0), 0);
        Check.stop(x, "a");
        Check.due("13: NONE of STOP words", Check.collect(x, "a").nearest(0), -1);
    }

    private static void nearestWordAsItIs() {
        WordIndex2 x = new WordIndex2();
        x.language(0, 1);
        Check.add(x, 0, "cats catxy");
        Check.due("13: TERMS", Check.terms(x, 0), "cat catxy");
        Check.due("13: as it is, not its STEM", Check.collect(x, "catxys").nearest(0), 1);
        Check.due("13: as it is, not its STEM", Check.collect(x, "catvws").nearest(0), -1);
        Check.stop(x, "mat");
        Check.due("13: as it is, a STOP word", Check.collect(x, "mat").nearest(0), 0);
        Check.due("13: its first word", Check.collect(x, "zzzzzz cat").nearest(0), -1);
        Check.due("13: its first word alone", Check.collect(x, "catxy cat").nearest(0), 1);
    }

    private static void stops() {
        stopWordsTooAndOnce();
        stopWordsUpTo40();
        stopWordsBeyond40();
    }

    private static void stopWordsTooAndOnce() {
        WordIndex2 x = new WordIndex2();
        Check.due("14: nothing collected", x.stop(), 0);
        Check.due("14: no words", Check.collect(x, " 1,").stop(), 0);
        Check.due("14: one", Check.collect(x, "the").stop(), 1);
        Check.due("14: the same one", Check.collect(x, "The").stop(), 1);
        Check.due("14: too", Check.collect(x, "of of the a").stop(), 3);
        Check.due("14: nothing collected", x.stop(), 3);
        Check.add(x, 0, "a of the b");
        Check.due("14: all of them", Check.terms(x, 0), "b");
    }

    private static void stopWordsUpTo40() {
        WordIndex2 x = new WordIndex2();
        Check.due("14: 26", Check.collect(x, "z y x w v u t s r q p o n m l k j i h g f e d c b a").stop(), 26);
        Check.due("14: 39", Check.collect(x, "az ay ax aw av au at as ar aq ap ao an").stop(), 39);
        Check.due("14: 40", Check.collect(x, "zz").stop(), 40);
        Check.due("14: 40 in all", Check.collect(x, "aa").stop(), 40);
        Check.due("14: 40 in all, one of them", Check.collect(x, "zz").stop(), 40);
        Check.add(x, 0, "a z an az zz aa");
        Check.due("14: those that come first", Check.terms(x, 0), "aa");
    }

    private static void stopWordsBeyond40() {
        WordIndex2 x = new WordIndex2();
        Check.due("14: 30", Check.collect(x, words('b', 26) + words('c', 4)).stop(), 30);
        Check.due("14: 40 within a question", Check.collect(x, "ba " + words('d', 11)).stop(), 40);
        Check.add(x, 0, "bz ca cd ce da dj dk");
        Check.due("14: those that come first", Check.terms(x, 0), "ce dk");
    }

    /** "ba bb bc ..", so many of them, at most 33 in one question. */
    private static String words(char first, int count) {
        StringBuilder text = new StringBuilder();
        for (int i = 0; i < count; i++) {
            text.append(first).append((char) ('a' + i)).append(' ');
        }
        return text.toString();
    }

    private static void languages() {
        WordIndex2 x = new WordIndex2();
        for (int kind = 0; kind < 4; kind++) {
            Check.due("15: the one before", x.language(kind, 2), 0);
            Check.due("15: the one before", x.language(kind, 0), 2);
            Check.due("15: the one before", x.language(kind, 1), 0);
            Check.due("15: the one before, the same one", x.language(kind, 1), 1);
        }
        int[] none = {-1, 3, 4, 256, Check.LEAST, Check.MOST};
        for (int l : none) {
            Check.due("15: NONE if there is no such language: " + l, x.language(0, l), -1);
        }
        for (int kind : NO_FIELDS) {
            Check.due("15: NONE if there is no such field: " + kind, x.language(kind, 2), -1);
            Check.due("15: NONE if there is neither: " + kind, x.language(kind, 3), -1);
        }
        Check.add(x, 0, "cats");
        Check.due("15: it stays", Check.terms(x, 0), "cat");
        for (int kind = 0; kind < 4; kind++) {
            Check.due("15: it stays", x.language(kind, 0), 1);
        }
        Check.due("15: another one", Check.terms(x, 0), "cats");
    }
}
