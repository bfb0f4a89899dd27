/** For each promise of the document: ordinary calls, the edges that it names, and wrong inputs. */
public final class PromisesTest {
    private static final int LEAST = Check.LEAST;
    private static final int MOST = Check.MOST;

    private PromisesTest() {
    }

    public static void main(String[] args) {
        newObject();
        records();
        fields();
        fieldLimit();
        removal();
        signs();
        asking();
        askingNothing();
        phrases();
        phrasesWithStops();
        nearness();
        nearnessRefused();
        wildBeginnings();
        wildEnds();
        hitsAsFound();
        ranks();
        termLists();
        nearestWords();
        stopWords();
        languages();
        stems();
        questionsAreUsedUp();
        Check.end();
    }

    private static void newObject() {
        WordIndex2 x = new WordIndex2();
        Check.due("1: NONE", WordIndex2.NONE, -1);
        Check.due("1: hit", x.hit(0, 0), 0);
        Check.due("1: rank", x.rank(0, 0), -1);
        Check.due("1: term", x.term(0, 0, 0), -1);
        Check.due("1: ask", x.ask(0), 0);
        Check.due("1: nearest", x.nearest(0), -1);
        Check.due("1: stop", x.stop(), 0);
        Check.due("1: remove", x.remove(1), 0);
        for (int kind = 0; kind < 4; kind++) {
            Check.due("1: language " + kind, x.language(kind, 0), 0);
        }
        Check.due("1: record", x.record(), 1);
        Check.add(new WordIndex2(), 0, "cat");
        Check.due("1: objects share nothing", Check.collect(x, "cat").ask(0), 0);
    }

    private static void records() {
        WordIndex2 x = new WordIndex2();
        for (int number = 1; number <= 30; number++) {
            Check.due("2: record", x.record(), number);
        }
        Check.due("2: record 31", x.record(), 0);
        x.remove(30);
        Check.due("2: a removed one still counts", x.record(), 0);
        Check.write(x, 29, 3, "cat");
        Check.due("2: empty fields", Check.collect(x, "cat").ask(3), 1);
        Check.due("2: hits", Check.hits(x), "29:1=1/1");
    }

    private static void fields() {
        WordIndex2 x = new WordIndex2();
        x.record();
        Check.write(x, 1, 0, "Az");
        Check.write(x, 1, 3, "dog");
        x.field(1, 0, 256 + 'M');
        x.field(1, 0, 'n' - 256);
        x.field(1, 0, '@');
        Check.write(x, 1, 0, "a[b`c{d\u00e9e");
        Check.due("3: letters", Check.terms(x, 0), "a azmn b c d e");
        Check.due("3: other field", Check.terms(x, 3), "dog");
        Check.write(x, 0, 0, " no");
        Check.write(x, 2, 0, " no");
        Check.write(x, -1, 0, " no");
        Check.write(x, LEAST, 0, " no");
        Check.write(x, MOST, 0, " no");
        Check.write(x, 1, 4, " no");
        Check.write(x, 1, -1, " no");
        Check.write(x, 1, LEAST, " no");
        Check.write(x, 1, MOST, " no");
        Check.due("3: none such", Check.terms(x, 0), "a azmn b c d e");
        Check.due("3: none such, other field", Check.terms(x, 3), "dog");
        WordIndex2 y = new WordIndex2();
        Check.add(y, 0, "cat sat");
        y.remove(1);
        Check.write(y, 1, 0, " mat");
        Check.add(y, 0, "go");
        Check.write(y, 2, 0, "at");
        Check.write(y, 2, 1, "x");
        Check.write(y, 2, 0, "s");
        Check.due("3: a word goes on", Check.terms(y, 0), "goats");
    }

    /** More than 512 calls, of which the document leaves the answers free; this class keeps them. */
    private static void fieldLimit() {
        WordIndex2 x = new WordIndex2();
        Check.add(x, 0, "a,".repeat(300));
        x.remove(1);
        Check.add(x, 1, "b,".repeat(449));
        x.field(99, 0, 'z');
        Check.write(x, 2, 0, "cdefg");
        Check.due("3: 1,500 signs", Check.terms(x, 0), "cd");
    }

    private static void removal() {
        WordIndex2 x = new WordIndex2();
        Check.add(x, 0, "cat");
        Check.add(x, 0, "cat dog");
        Check.due("4: before", Check.collect(x, "cat").ask(0), 2);
        Check.due("4: none such", x.remove(3), 0);
        Check.due("4: none such", x.remove(0), 0);
        Check.due("4: none such", x.remove(-1), 0);
        Check.due("4: none such", x.remove(LEAST), 0);
        Check.due("4: none such", x.remove(MOST), 0);
        Check.due("4: there", x.remove(2), 1);
        Check.due("4: removed", x.remove(2), 0);
        Check.due("4: terms", Check.terms(x, 0), "cat");
        Check.due("4: ask", Check.collect(x, "cat").ask(0), 1);
        Check.due("4: phrase", Check.collect(x, "cat dog").phrase(0), 0);
        Check.due("4: near", Check.collect(x, "cat dog").near(0, 1), 0);
        Check.due("4: wild", Check.collect(x, "dog").wild(0, false), 0);
        Check.due("4: numbers go on", x.record(), 3);
    }

    private static void signs() {
        WordIndex2 x = new WordIndex2();
        Check.add(x, 0, "cat dog");
        Check.due("5: letters", Check.collect(x, "CaT").ask(0), 1);
        Check.add(x, 1, "AZ az Aa zZ");
        Check.due("5: the first and the last letter", Check.collect(x, "Az ZZ").ask(1), 1);
        Check.due("5: hits", Check.hits(x), "2:3=3/4");
        x.sign('c' + 512);
        x.sign('a' - 1024);
        x.sign('t');
        Check.due("5: eight bits", x.ask(0), 1);
        Check.collect(x, " ".repeat(97) + "cat");
        x.sign('s');
        Check.due("5: 100 signs", x.ask(0), 1);
        Check.collect(x, " ".repeat(98) + "cat");
        Check.due("5: the 101st is lost", x.ask(0), 0);
        Check.due("5: room again", Check.collect(x, "dog cat").ask(0), 1);
        Check.collect(x, "a ".repeat(50) + "b");
        Check.due("5: 50 words", x.stop(), 1);
        Check.collect(x, "x".repeat(99));
        Check.due("5: cut to 12", x.stop(), 2);
    }

    private static void asking() {
        WordIndex2 x = new WordIndex2();
        Check.add(x, 1, "red cat; blue cat, old dog");
        Check.add(x, 1, "dog cat");
        Check.add(x, 1, "cat");
        Check.add(x, 0, "cat dog");
        Check.add(x, 1, "the dog, the cat");
        Check.due("6: one word", Check.collect(x, "cat").ask(1), 4);
        Check.due("6: by rank", Check.hits(x), "3:1=1/1 2:1=1/2 1:2=1/3 5:1=1/4");
        Check.due("6: each word", Check.collect(x, "dog cat").ask(1), 3);
        Check.due("6: by rank, then number", Check.hits(x), "2:2=1/1 1:3=1/2 5:2=1/2");
        Check.due("6: a word twice", Check.collect(x, "cat,cat").ask(1), 4);
        Check.due("6: a place once", Check.hits(x), "3:1=1/1 2:1=1/2 1:2=1/3 5:1=1/4");
        Check.due("6: a word that is not there", Check.collect(x, "cat mouse").ask(1), 0);
        Check.stop(x, "the old");
        Check.due("6: stop words left out", Check.collect(x, "the dog old").ask(1), 3);
        Check.due("6: stop words count below", Check.hits(x), "2:1=1/2 5:1=1/4 1:1=1/6");
        x.language(1, 1);
        Check.due("6: by the language", Check.collect(x, "cats dogs").ask(1), 3);
        Check.due("6: hits", Check.hits(x), "2:2=1/1 1:3=1/2 5:2=1/2");
    }

    private static void askingNothing() {
        WordIndex2 x = new WordIndex2();
        Check.add(x, 0, "the cat");
        Check.stop(x, "the");
        String[] none = {"", "the", "the The", " ,;1"};
        for (String text : none) {
            Check.collect(x, "cat").ask(0);
            Check.due("6: hits before", Check.hits(x), "1:1=1/2");
            Check.due("6: [" + text + "]", Check.collect(x, text).ask(0), 0);
            Check.due("6: no hits, [" + text + "]", Check.hits(x), "");
        }
        int[] kinds = {-1, 4, LEAST, MOST};
        for (int kind : kinds) {
            Check.collect(x, "cat").ask(0);
            Check.due("6: field " + kind, Check.collect(x, "cat").ask(kind), 0);
            Check.due("6: no hits, field " + kind, Check.hits(x), "");
            Check.due("6: used up, field " + kind, x.ask(0), 0);
        }
    }

    private static void phrases() {
        WordIndex2 x = new WordIndex2();
        Check.add(x, 0, "cat sat on cat mat");
        Check.add(x, 0, "cat mat cat");
        Check.add(x, 0, "mat cat");
        Check.add(x, 1, "cat mat");
        Check.due("7: phrase", Check.collect(x, "cat mat").phrase(0), 2);
        Check.due("7: all places count", Check.hits(x), "2:3=1/1 1:3=3/5");
        Check.due("7: at the end", Check.collect(x, "mat cat").phrase(0), 2);
        Check.due("7: hits", Check.hits(x), "2:3=1/1 3:2=1/1");
        Check.due("7: one word", Check.collect(x, "sat").phrase(0), 1);
        Check.due("7: order", Check.collect(x, "mat sat").phrase(0), 0);
        Check.due("7: gap", Check.collect(x, "cat on").phrase(0), 0);
        Check.due("7: longer than the field", Check.collect(x, "mat cat mat cat").phrase(0), 0);
        Check.due("7: a word twice", Check.collect(x, "cat cat").phrase(0), 0);
        Check.collect(x, "cat").ask(0);
        Check.due("7: no word", x.phrase(0), 0);
        Check.due("7: no hits", Check.hits(x), "");
        Check.collect(x, "cat").ask(0);
        Check.due("7: no such field", Check.collect(x, "cat").phrase(4), 0);
        Check.due("7: no hits", Check.hits(x), "");
        Check.due("7: no such field", Check.collect(x, "cat").phrase(-1), 0);
        x.language(0, 1);
        Check.due("7: by the language", Check.collect(x, "cats mats").phrase(0), 2);
    }

    private static void phrasesWithStops() {
        WordIndex2 x = new WordIndex2();
        Check.add(x, 0, "cat the mat");
        Check.add(x, 0, "cat old mat");
        Check.add(x, 0, "cat mat");
        Check.add(x, 0, "the cat");
        Check.stop(x, "the a");
        Check.due("7: any word", Check.collect(x, "cat a mat").phrase(0), 2);
        Check.due("7: hits", Check.hits(x), "1:2=2/3 2:2=2/3");
        Check.due("7: not left out", Check.collect(x, "cat a the mat").phrase(0), 0);
        Check.due("7: first, must be there", Check.collect(x, "the cat").phrase(0), 1);
        Check.due("7: hits", Check.hits(x), "4:1=1/2");
        Check.due("7: last, must be there", Check.collect(x, "cat the").phrase(0), 3);
        Check.due("7: hits", Check.hits(x), "3:1=1/2 1:1=1/3 2:1=1/3");
        Check.due("7: all stop words", Check.collect(x, "the a").phrase(0), 0);
        Check.due("7: no hits", Check.hits(x), "");
    }

    private static void nearness() {
        WordIndex2 x = new WordIndex2();
        Check.add(x, 2, "cat one two dog");
        Check.add(x, 2, "dog, cat");
        Check.add(x, 2, "dog one cat dig dig cat");
        Check.add(x, 2, "cat");
        Check.due("8: distance 1", Check.collect(x, "cat dog").near(2, 1), 1);
        Check.due("8: hits", Check.hits(x), "2:2=1/1");
        Check.due("8: distance 2", Check.collect(x, "cat dog").near(2, 2), 2);
        Check.due("8: hits", Check.hits(x), "2:2=1/1 3:3=1/2");
        Check.due("8: distance 3", Check.collect(x, "dog cat").near(2, 3), 3);
        Check.due("8: hits", Check.hits(x), "2:2=1/1 1:2=1/2 3:3=1/2");
        Check.due("8: any distance", Check.collect(x, "dog cat").near(2, MOST), 3);
        Check.due("8: not the same place", Check.collect(x, "cat cat").near(2, 2), 0);
        Check.due("8: the same term twice", Check.collect(x, "cat cat").near(2, 3), 1);
        Check.due("8: hits", Check.hits(x), "3:2=1/3");
        Check.due("8: the first two alone", Check.collect(x, "cat dog one two").near(2, 1), 1);
        Check.due("8: hits", Check.hits(x), "2:2=1/1");
        Check.due("8: a third counts nothing", Check.collect(x, "cat dog dig").near(2, 2), 2);
        Check.due("8: hits", Check.hits(x), "2:2=1/1 3:3=1/2");
        x.language(2, 1);
        Check.due("8: by the language", Check.collect(x, "cats dogs").near(2, 1), 1);
    }

    private static void nearnessRefused() {
        WordIndex2 x = new WordIndex2();
        Check.add(x, 2, "cat the dog");
        Check.stop(x, "the");
        String[] none = {"", "cat", "the cat dog", "cat the dog", "the the", "cat the"};
        for (String text : none) {
            Check.collect(x, "cat").ask(2);
            Check.due("8: [" + text + "]", Check.collect(x, text).near(2, 5), 0);
            Check.due("8: no hits, [" + text + "]", Check.hits(x), "");
        }
        int[] distances = {0, -1, LEAST};
        for (int distance : distances) {
            Check.collect(x, "cat").ask(2);
            Check.due("8: distance " + distance, Check.collect(x, "cat dog").near(2, distance), 0);
            Check.due("8: no hits", Check.hits(x), "");
        }
        Check.due("8: places of stop words", Check.collect(x, "cat dog").near(2, 1), 0);
        Check.due("8: places of stop words", Check.collect(x, "cat dog").near(2, 2), 1);
        Check.due("8: no such field", Check.collect(x, "cat dog").near(4, 2), 0);
        Check.due("8: no hits", Check.hits(x), "");
        Check.due("8: no such field", Check.collect(x, "cat dog").near(-1, 2), 0);
    }

    private static void wildBeginnings() {
        WordIndex2 x = new WordIndex2();
        Check.add(x, 0, "cat cats car dog");
        Check.add(x, 0, "cat");
        Check.add(x, 0, "scat, dog");
        Check.due("9: beginning", Check.collect(x, "ca").wild(0, false), 2);
        Check.due("9: places with such", Check.hits(x), "2:1=1/1 1:3=3/4");
        Check.due("9: one letter", Check.collect(x, "S dog").wild(0, false), 1);
        Check.due("9: the first word alone", Check.hits(x), "3:1=1/2");
        Check.due("9: the whole", Check.collect(x, "cats").wild(0, false), 1);
        Check.due("9: longer", Check.collect(x, "catsx").wild(0, false), 0);
        x.language(0, 1);
        Check.due("9: as it is", Check.collect(x, "cats").wild(0, false), 0);
        Check.due("9: of terms", Check.collect(x, "cat").wild(0, false), 2);
        Check.due("9: hits", Check.hits(x), "2:1=1/1 1:2=1/2");
        Check.stop(x, "cat ca");
        Check.due("9: stop words have no term", Check.collect(x, "ca").wild(0, false), 1);
        Check.due("9: hits", Check.hits(x), "1:2=1/2");
        Check.due("9: no word", Check.collect(x, " .").wild(0, false), 0);
        Check.due("9: no hits", Check.hits(x), "");
        Check.collect(x, "ca").wild(0, false);
        Check.due("9: no such field", Check.collect(x, "ca").wild(4, false), 0);
        Check.due("9: no hits", Check.hits(x), "");
        Check.due("9: no such field", Check.collect(x, "ca").wild(-1, false), 0);
        Check.due("9: used up", x.wild(0, false), 0);
    }

    private static void wildEnds() {
        WordIndex2 x = new WordIndex2();
        Check.add(x, 0, "cart dart art arts abcdefghiart");
        Check.add(x, 0, "party smart");
        Check.due("9: end", Check.collect(x, "art").wild(0, true), 2);
        Check.due("9: places with such", Check.hits(x), "1:4=4/5 2:1=1/2");
        Check.due("9: less than three", Check.collect(x, "rt").wild(0, true), 0);
        Check.due("9: no hits", Check.hits(x), "");
        Check.due("9: less than three", Check.collect(x, "t").wild(0, true), 0);
        Check.due("9: longer than the term", Check.collect(x, "xsmart").wild(0, true), 0);
        Check.due("9: twelve letters", Check.collect(x, "abcdefghiart").wild(0, true), 1);
        Check.due("9: no word", x.wild(0, true), 0);
        Check.due("9: no such field", Check.collect(x, "art").wild(4, true), 0);
        x.language(0, 1);
        Check.due("9: of terms", Check.collect(x, "art").wild(0, true), 2);
        Check.due("9: hits", Check.hits(x), "1:5=1/1 2:1=1/2");
        Check.due("9: as it is", Check.collect(x, "arts").wild(0, true), 0);
    }

    private static void hitsAsFound() {
        WordIndex2 x = new WordIndex2();
        Check.add(x, 0, "cat cat dog");
        Check.add(x, 0, "cat");
        Check.collect(x, "cat").ask(0);
        Check.due("10: hits", Check.hits(x), "2:1=1/1 1:2=2/3");
        x.remove(2);
        Check.write(x, 1, 0, " cat");
        x.language(0, 2);
        x.record();
        Check.collect(x, "mouse");
        Check.due("10: as found", Check.hits(x), "2:1=1/1 1:2=2/3");
        x.stop();
        Check.collect(x, "dig").nearest(0);
        Check.due("10: no question for records", Check.hits(x), "2:1=1/1 1:2=2/3");
        Check.due("10: another what", x.hit(0, 2), 0);
        Check.due("10: another what", x.hit(0, -1), 0);
        Check.due("10: another what", x.hit(0, LEAST), 0);
        Check.due("10: another what", x.hit(0, MOST), 0);
        int[] none = {2, -1, 30, LEAST, MOST};
        for (int i : none) {
            Check.due("10: hit " + i, x.hit(i, 0), 0);
            Check.due("10: hit " + i, x.hit(i, 1), 0);
        }
        Check.collect(x, "dog").ask(0);
        Check.due("10: the latest", Check.hits(x), "1:1=1/4");
    }

    private static void ranks() {
        WordIndex2 x = new WordIndex2();
        Check.add(x, 0, "a b b a b b");
        Check.add(x, 0, "a b a");
        Check.add(x, 0, "b a b");
        Check.collect(x, "a").ask(0);
        Check.due("11: least terms", Check.hits(x), "2:2=2/3 1:2=1/3 3:1=1/3");
        Check.due("11: other sides", x.rank(0, 2), 3);
        Check.due("11: other sides", x.rank(0, -1), 3);
        Check.due("11: other sides", x.rank(0, LEAST), 3);
        int[] none = {3, -1, 30, LEAST, MOST};
        for (int i : none) {
            Check.due("11: rank " + i, x.rank(i, 0), -1);
            Check.due("11: rank " + i, x.rank(i, 1), -1);
        }
        WordIndex2 y = new WordIndex2();
        for (int i = 0; i < 30; i++) {
            Check.add(y, 0, "a" + " b".repeat((i * 7) % 10));
        }
        Check.due("11: thirty", Check.collect(y, "a").ask(0), 30);
        for (int i = 0; i < 30; i++) {
            Check.due("11: above", y.rank(i, 0), 1);
            Check.due("11: below", y.rank(i, 1), i / 3 + 1);
        }
    }

    private static void termLists() {
        WordIndex2 x = new WordIndex2();
        Check.add(x, 0, "cats car cat");
        Check.add(x, 0, "Car z a abcdefghijklmn");
        Check.add(x, 1, "other");
        Check.add(x, 0, "gone");
        x.remove(4);
        Check.due("12: by letters", Check.terms(x, 0), "a abcdefghijkl car cat cats z");
        Check.due("12: past the end", x.term(0, 0, 1), 0);
        Check.due("12: past the end", x.term(0, 1, 12), 0);
        Check.due("12: past the end", x.term(0, 0, MOST), 0);
        Check.due("12: last letter", x.term(0, 1, 11), 'l');
        Check.due("12: no such letter", x.term(0, 0, -1), -1);
        Check.due("12: no such letter", x.term(0, 0, LEAST), -1);
        Check.due("12: last term", x.term(0, 5, 0), 'z');
        int[] none = {6, -1, LEAST, MOST};
        for (int i : none) {
            Check.due("12: term " + i, x.term(0, i, 0), -1);
            Check.due("12: term " + i, x.term(0, i, 50), -1);
        }
        int[] kinds = {2, 4, -1, LEAST, MOST};
        for (int kind : kinds) {
            Check.due("12: field " + kind, x.term(kind, 0, 0), -1);
        }
        x.language(0, 1);
        Check.due("12: stems", Check.terms(x, 0), "a abcdefghijkl car cat z");
        Check.stop(x, "cat a");
        Check.due("12: without stop words", Check.terms(x, 0), "abcdefghijkl car cat z");
        Check.collect(x, "ot").term(1, 0, 0);
        Check.due("12: the question stays", x.wild(1, false), 1);
    }

    private static void nearestWords() {
        WordIndex2 x = new WordIndex2();
        Check.add(x, 0, "bat cat house mouse abcdefghijkl");
        Check.due("13: the same", Check.collect(x, "cat").nearest(0), 2);
        Check.due("13: change, first by letters", Check.collect(x, "rat").nearest(0), 1);
        Check.due("13: fewest", Check.collect(x, "caat").nearest(0), 2);
        Check.due("13: put in", Check.collect(x, "mose").nearest(0), 4);
        Check.due("13: take out", Check.collect(x, "moussxe").nearest(0), 4);
        Check.due("13: two", Check.collect(x, "xcxat").nearest(0), 2);
        Check.due("13: three", Check.collect(x, "xcxatx").nearest(0), -1);
        Check.due("13: one letter", Check.collect(x, "t").nearest(0), 1);
        Check.due("13: swapped are two", Check.collect(x, "muose").nearest(0), 4);
        Check.due("13: cut to 12", Check.collect(x, "ABCDEFGHIJKLMNOP").nearest(0), 0);
        Check.due("13: long, two", Check.collect(x, "bcdefghijklm").nearest(0), 0);
        Check.due("13: long, three", Check.collect(x, "cdefghijklm").nearest(0), -1);
        Check.due("13: first word", Check.collect(x, "mouse cat").nearest(0), 4);
        Check.due("13: used up", x.nearest(0), -1);
        Check.due("13: no such field", Check.collect(x, "cat").nearest(4), -1);
        Check.due("13: used up", x.nearest(0), -1);
        Check.due("13: no such field", Check.collect(x, "cat").nearest(-1), -1);
        Check.due("13: nothing there", Check.collect(x, "cat").nearest(1), -1);
        x.language(0, 2);
        Check.due("13: among terms", Check.terms(x, 0), "abcdefghijkl bat cat hous mous");
        Check.due("13: as it is", Check.collect(x, "mousexx").nearest(0), -1);
        Check.stop(x, "cat");
        Check.due("13: a stop word as it is", Check.collect(x, "cat").nearest(0), 1);
        x.remove(1);
        Check.due("13: removed", Check.collect(x, "bat").nearest(0), -1);
    }

    private static void stopWords() {
        WordIndex2 x = new WordIndex2();
        Check.due("14: two", Check.collect(x, "The, of the").stop(), 2);
        Check.due("14: too", Check.collect(x, "of and").stop(), 3);
        Check.due("14: none", x.stop(), 3);
        Check.add(x, 0, "and ands bands");
        x.language(0, 1);
        Check.due("14: as a word, not as a stem", Check.terms(x, 0), "and band");
        Check.due("14: in a question too", Check.collect(x, "and ands").ask(0), 1);
        Check.due("14: hits", Check.hits(x), "1:1=1/3");
        WordIndex2 y = new WordIndex2();
        for (char c = 'z'; c >= 'a'; c--) {
            Check.stop(y, "" + c);
        }
        Check.due("14: 40", Check.collect(y, "ba bb bc bd be bf bg bh bi bj bk bl bm bo aa").stop(), 40);
        Check.due("14: full", Check.collect(y, "ab").stop(), 40);
        Check.add(y, 0, "aa ab bo ba z");
        Check.due("14: those that come first", Check.terms(y, 0), "aa ab");
        WordIndex2 w = new WordIndex2();
        Check.stop(w, "abcdefghijklxyz");
        Check.add(w, 0, "abcdefghijklm abcdefghijk");
        Check.due("14: cut to 12", Check.terms(w, 0), "abcdefghijk");
    }

    private static void languages() {
        WordIndex2 x = new WordIndex2();
        Check.due("15: before", x.language(3, 2), 0);
        Check.due("15: before", x.language(3, 1), 2);
        Check.due("15: before", x.language(3, 1), 1);
        int[] none = {3, -1, LEAST, MOST};
        for (int l : none) {
            Check.due("15: language " + l, x.language(3, l), -1);
        }
        int[] kinds = {4, -1, LEAST, MOST};
        for (int kind : kinds) {
            Check.due("15: field " + kind, x.language(kind, 1), -1);
        }
        Check.due("15: it stays", x.language(3, 0), 1);
        Check.due("15: other fields", x.language(2, 0), 0);
        Check.add(x, 1, "cats");
        Check.write(x, 1, 2, "cats");
        x.language(1, 1);
        Check.due("15: one field", Check.terms(x, 1), "cat");
        Check.due("15: not the other", Check.terms(x, 2), "cats");
        x.language(1, 0);
        Check.due("15: as it is now", Check.terms(x, 1), "cats");
    }

    private static void stems() {
        WordIndex2 x = new WordIndex2();
        String text = "bus cats glass open offen offene abe able en e s ess lichten abcdefghijken";
        Check.add(x, 0, text);
        Check.due("15: 0", Check.terms(x, 0),
            "abcdefghijke abe able bus cats e en ess glass lichten offen offene open s");
        x.language(0, 1);
        Check.due("15: 1", Check.terms(x, 0),
            "abcdefghijke abe able bus cat e en ess glas lichten offen offene open s");
        x.language(0, 2);
        Check.due("15: 2", Check.terms(x, 0),
            "abcdefghijk abe abl bus cats e en ess glass licht off offen open s");
    }

    private static void questionsAreUsedUp() {
        WordIndex2 x = new WordIndex2();
        Check.add(x, 0, "cat dog");
        Check.collect(x, "mouse ").ask(0);
        Check.due("ask uses it up", Check.collect(x, "cat").ask(0), 1);
        Check.collect(x, "mouse ").phrase(0);
        Check.due("phrase uses it up", Check.collect(x, "cat").ask(0), 1);
        Check.collect(x, "mouse ").near(0, 0);
        Check.due("near uses it up", Check.collect(x, "cat").ask(0), 1);
        Check.collect(x, "mo").wild(0, true);
        Check.due("wild uses it up", Check.collect(x, "cat").ask(0), 1);
        Check.collect(x, "mouse ").nearest(0);
        Check.due("nearest uses it up", Check.collect(x, "cat").ask(0), 1);
        Check.collect(x, "mouse ").stop();
        Check.due("stop uses it up", Check.collect(x, "cat").ask(0), 1);
        Check.collect(x, "dog");
        x.hit(0, 0);
        x.rank(0, 0);
        x.term(0, 0, 0);
        x.language(0, 1);
        x.record();
        x.remove(2);
        x.field(1, 0, 's');
        Check.due("the others leave it", x.ask(0), 1);
        Check.due("hits", Check.hits(x), "1:1=1/2");
    }
}
