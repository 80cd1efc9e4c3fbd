/**
 * The boundary cases of units and pieces: what each sort asks of its words and letters, and promises 18 pieces,
 * 19 pieceCost and 20 units.
 */
public final class UnitBoundsTest extends Bounds {
    public static void main(String[] args) {
        spanArguments();
        noPiece();
        given();
        itself();
        reversalWords();
        reversalLetters();
        anagramWords();
        anagramLetters();
        containerWords();
        containerLetters();
        insertionWords();
        insertionLetters();
        hiddenWords();
        hiddenLetters();
        beheaded();
        curtailed();
        initials();
        link();
        differentUnits();
        pieces();
        greatestNumbers();
        Check.end();
    }

    /** How many units all words of the clue together are for the whole answer. */
    private static void units(String sentence, String book, String clue, String answer, int due) {
        String span = "(0, " + clue.split(" ").length + ", 0, " + answer.length() + ")";
        run(sentence + " (" + clue + ", " + answer + ")", made(book, clue, answer) + "units" + span + " = " + due);
    }

    private static String span(String arguments, int pieces, int units, int cost) {
        return "pieces(" + arguments + ") = " + pieces + "; units(" + arguments + ") = " + units + "; pieceCost("
                + arguments + ") = " + cost + "; ";
    }

    private static String wrongSpans(String... spans) {
        StringBuilder script = new StringBuilder();
        for (String arguments : spans) {
            script.append(span(arguments, ClueParts.BAD, ClueParts.BAD, ClueParts.BAD));
        }
        return script.toString();
    }

    private static void spanArguments() {
        String none = span("0, 1, 0, 1", 0, 0, ClueParts.NONE);
        run("18 to 20: i is a word", wrongSpans("-1, 1, 0, 1", "-1, 0, 0, 1", "3, 4, 0, 1", "3, 3, 0, 1", "LEAST, 1, 0, 1",
                "MOST, 1, 0, 1", "MOST, LEAST, 0, 1") + none + span("2, 3, 0, 3", 1, 1, 1));
        run("18 to 20: j is i + 1 to the number of words", wrongSpans("0, 0, 0, 1", "1, 1, 0, 1", "2, 2, 0, 1",
                "1, 0, 0, 1", "2, 1, 0, 1", "0, 4, 0, 1", "2, 4, 0, 1", "0, -1, 0, 1", "0, LEAST, 0, 1", "0, MOST, 0, 1")
                + span("0, 2, 0, 3", 1, 1, 2) + span("0, 3, 0, 3", 0, 0, ClueParts.NONE));
        run("18 to 20: a is a letter", wrongSpans("0, 1, -1, 1", "0, 1, -1, 0", "0, 1, 3, 4", "0, 1, 3, 3",
                "0, 1, LEAST, 1", "0, 1, MOST, 1", "0, 1, MOST, LEAST") + none + span("2, 3, 2, 3", 0, 0, ClueParts.NONE));
        run("18 to 20: b is a + 1 to the number of letters", wrongSpans("0, 1, 0, 0", "0, 1, 1, 1", "0, 1, 2, 2",
                "0, 1, 1, 0", "0, 1, 2, 1", "0, 1, 0, 4", "0, 1, 2, 4", "0, 1, 0, -1", "0, 1, 0, LEAST", "0, 1, 0, MOST")
                + span("2, 3, 0, 3", 1, 1, 1));
        run("18 to 20: the shortest clue and answer", made("a=x;b=y;", "a b", "xy") + span("0, 1, 0, 1", 1, 1, 1)
                + span("1, 2, 1, 2", 1, 1, 1) + span("0, 2, 0, 2", 1, 0, 2)
                + wrongSpans("0, 3, 0, 2", "0, 2, 0, 3", "2, 3, 0, 1", "0, 1, 2, 3"));
        run("18 to 20: the longest clue and answer", made("e=h;f=h;", "a b c d e f", "abcdefgh")
                + span("5, 6, 7, 8", 1, 1, 1) + span("4, 5, 7, 8", 1, 1, 1) + span("0, 6, 0, 8", 0, 0, ClueParts.NONE)
                + span("0, 6, 0, 6", 1, 0, 18) + wrongSpans("0, 7, 0, 8", "0, 6, 0, 9", "6, 7, 0, 8", "0, 6, 8, 9"));
        run("18 to 20: the letters of a longer answer before, or of a longer clue, are not there",
                made("", "a b c d e f", "abcdefgh") + "clue \"a b\" = 2; answer \"ab\" = 2; "
                + wrongSpans("0, 3, 0, 2", "0, 2, 0, 3", "5, 6, 0, 1", "0, 1, 7, 8") + span("0, 2, 0, 2", 1, 0, 6));
    }

    private static void noPiece() {
        run("19: NONE if there is no such piece", "pieceCost(0, 1, 0, 3) = NONE; pieceCost(0, 3, 0, 1) = NONE");
        run("19: a piece that costs nothing is not NONE", "weigh(0, 0) = 1; weigh(2, 0) = 1; pieceCost(0, 2, 0, 3) = 0");
        run("19: NONE is returned only if no error code applies", "pieceCost(0, 1, 0, 4) = BAD; pieceCost(0, 1, 0, 2) = NONE");
        run("19: the lowest cost", made("ab=ab;", "ab ab", "ab") + span("0, 1, 0, 2", 2, 2, 1)
                + "weigh(0, 4) = 1; " + span("0, 1, 0, 2", 2, 2, 3) + "weigh(1, 9) = 3; " + span("0, 1, 0, 2", 2, 2, 4));
    }

    private static void given() {
        run("given: one word and its 1 to 8 letters", made("w=a;w=abcdefgh;w=bcdefgh;", "w w", "abcdefgh")
                + span("0, 1, 0, 1", 1, 1, 1) + span("0, 1, 0, 8", 1, 1, 1) + span("0, 1, 1, 8", 1, 1, 1)
                + span("0, 1, 0, 7", 0, 0, ClueParts.NONE) + span("0, 1, 1, 2", 0, 0, ClueParts.NONE)
                + span("0, 2, 0, 8", 1, 0, 2));
        run("given: exactly these letters", made("w=ab;", "w w", "abc") + span("0, 1, 0, 2", 1, 1, 1)
                + span("0, 1, 0, 1", 0, 0, ClueParts.NONE) + span("0, 1, 0, 3", 0, 0, ClueParts.NONE)
                + span("0, 1, 1, 3", 0, 0, ClueParts.NONE));
        units("given: one word, not two", "w=ab;ww=ab;", "w w", "ab", 0);
        run("given: exactly this word", made("w=ab;wwwwwww=cd;", "ww wwwwww", "abcd") + span("0, 1, 0, 2", 0, 0,
                ClueParts.NONE) + span("1, 2, 2, 4", 0, 0, ClueParts.NONE));
        run("given: the weights 0 and 9", made("w=ab;", "w w", "ab") + "weigh(0, 0) = 1; pieceCost(0, 1, 0, 2) = 0;"
                + "weigh(0, 9) = 0; pieceCost(0, 1, 0, 2) = 9");
    }

    private static void itself() {
        run("itself: one word of 1 to 7 letters", made("", "a abcdefg", "abcdefgh") + span("0, 1, 0, 1", 1, 1, 3)
                + span("1, 2, 0, 7", 1, 1, 3) + span("1, 2, 0, 6", 0, 0, ClueParts.NONE)
                + span("1, 2, 0, 8", 0, 0, ClueParts.NONE) + span("1, 2, 1, 8", 0, 0, ClueParts.NONE));
        run("itself: exactly these letters", made("", "ba ab", "ab") + span("0, 1, 0, 2", 0, 0, ClueParts.NONE)
                + span("1, 2, 0, 2", 1, 1, 3) + span("1, 2, 0, 1", 0, 0, ClueParts.NONE));
        units("itself: one word, not two", "", "a b", "ab", 0);
        run("itself: an indicator too", made("in/N;", "in in", "in") + span("0, 1, 0, 2", 1, 1, 3));
        run("itself: the weights 0 and 9", made("", "ab b", "ab") + "weigh(1, 0) = 3; pieceCost(0, 1, 0, 2) = 0;"
                + "weigh(1, 9) = 0; pieceCost(0, 1, 0, 2) = 9");
    }

    private static void reversalWords() {
        String book = "r/R;p=tu;p=t;q=u;";
        units("R: the first word", book, "r p", "ut", 1);
        units("R: the last word", book, "p r", "ut", 1);
        units("R: the first of three words", book, "r p q", "ut", 1);
        units("R: the last of three words", book, "p q r", "ut", 1);
        units("R: not a word in the middle", book, "p r q", "ut", 0);
        units("R: the first of six words", "r/R;", "r a b c d e", "edcba", 1);
        units("R: the last of six words", "r/R;", "a b c d e r", "edcba", 1);
        units("R: no word is an indicator", "r/A;", "r to", "ot", 1);
        units("R: no word is an indicator", "r/C;r=ot;", "r to", "ot", 0);
        units("R: both words, and each is the other's piece", "ab/R;", "ab ab", "ba", 2);
        run("R: no unit of the indicator alone", made("aa/R;", "aa b", "aa") + "weigh(1, 0) = 3;" + span("0, 1, 0, 2", 1, 1, 0));
    }

    private static void reversalLetters() {
        run("R: at least two letters", made("r/R;p=t;p=tu;q=u;", "r p q", "ut") + span("0, 2, 1, 2", 0, 0, ClueParts.NONE)
                + span("0, 2, 0, 2", 1, 1, 2) + span("0, 3, 0, 2", 1, 1, 3) + span("0, 2, 0, 1", 0, 0, ClueParts.NONE));
        run("R: at least two letters, with the indicator last", made("r/R;q=u;q=tu;", "q r", "ut")
                + span("0, 2, 0, 1", 0, 0, ClueParts.NONE) + span("0, 2, 0, 2", 1, 1, 2));
        units("R: at least two letters: 8", "r/R;p=hgfedcba;", "r p", "abcdefgh", 1);
        units("R: in reverse order, not in the same one", "r/R;p=tu;", "r p", "tu", 0);
        units("R: letters that are the same in reverse order", "r/R;p=tut;", "r p", "tut", 1);
        units("R: the other words are a piece, its units in their order", "r/R;p=tu;q=vw;", "r p q", "wvut", 1);
        units("R: the other words are a piece, its units in their order", "r/R;p=tu;q=vw;", "r p q", "utwv", 0);
        units("R: twice", "r/R;p=tu;", "r r p", "tu", 1);
        units("R: of all letters of the piece", "r/R;p=tuv;", "r p", "ut", 0);
        run("R: the weight and the costs of the pieces", made("r/R;p=tu;", "r p", "ut") + "pieceCost(0, 2, 0, 2) = 2;"
                + "weigh(2, 0) = 1; pieceCost(0, 2, 0, 2) = 1; weigh(2, 9) = 0; pieceCost(0, 2, 0, 2) = 10");
    }

    private static void anagramWords() {
        units("A: the first word", "x/A;", "x ab", "ba", 1);
        units("A: the last word", "x/A;", "ab x", "ba", 1);
        units("A: not a word in the middle", "x/A;", "b x a", "ab", 0);
        units("A: not a word in the middle, nor with its letter", "x/A;", "b x a", "bax", 0);
        units("A: the first and the last word", "x/A;", "x ab x", "xba", 2);
        units("A: all other words together", "x/A;", "x b a", "ab", 1);
        units("A: all other words together: five", "x/A;", "x a b c d e", "edcba", 1);
        units("A: all other words together, not without the last", "x/A;", "x ab c", "ba", 0);
        units("A: the words themselves, not what they may stand for", "x/A;p=ab;", "x p", "ba", 0);
        units("A: two words, each is the other's indicator", "ab/A;ac/A;", "ab ac", "ba", 1);
        units("A: two words, each is the other's indicator", "ab/A;", "ab ab", "ba", 2);
        units("A: no word is an indicator", "x/R;", "x abc", "bac", 0);
        run("A: no unit of the indicator alone", made("ab/A;", "ab c", "ba") + span("0, 1, 0, 2", 0, 0, ClueParts.NONE));
    }

    private static void anagramLetters() {
        units("A: in a different order, not in the same one", "x/A;", "x ab", "ab", 0);
        units("A: in a different order, not in the same one, of two words", "x/A;", "x a b", "ab", 0);
        units("A: in a different order: there is none", "x/A;", "x aaa", "aaa", 0);
        run("A: in a different order: of one letter there is none", made("x/A;", "x a", "ab") + span("0, 2, 0, 1", 0, 0,
                ClueParts.NONE) + span("0, 2, 1, 2", 0, 0, ClueParts.NONE));
        units("A: in a different order: two letters are exchanged at the end", "x/A;", "x abcdefg h", "abcdefhg", 1);
        units("A: the same letters: one is missing", "x/A;", "x abc", "ba", 0);
        units("A: the same letters: there is one more", "x/A;", "x ab", "bac", 0);
        units("A: the same letters: as often", "x/A;", "x aab", "bba", 0);
        units("A: the same letters: as often", "x/A;", "x aab", "baa", 1);
        units("A: the same letters: as often, but not all of them", "x/A;", "x aab", "ba", 0);
        units("A: the same letters: others", "x/A;", "x ad", "cb", 0);
        units("A: 8 letters", "x/A;", "x abcdefg h", "hgfedcba", 1);
        units("A: 8 letters z", "x/A;", "x zzzzzzz y", "yzzzzzzz", 1);
        units("A: of 9 letters, not the last 8", "x/A;", "x abcdefg hi", "ihgfedcb", 0);
        units("A: of 9 letters, not the first 8", "x/A;", "x abcdefg hi", "hgfedcba", 0);
        units("A: of 9 letters, not the first 8, the indicator last", "x/A;", "abcdefg hi x", "hgfedcba", 0);
        units("A: of 35 letters, not the first 8", "x/A;", "x abcdefg abcdefg abcdefg abcdefg abcdefg", "agfedcba", 0);
        run("A: its cost is the weight", made("x/A;a=a;b=b;", "x a b", "ba") + "pieceCost(0, 3, 0, 2) = 2;"
                + "weigh(3, 0) = 2; pieceCost(0, 3, 0, 2) = 0; weigh(3, 9) = 0; pieceCost(0, 3, 0, 2) = 9");
    }

    private static void containerWords() {
        String book = "h/C;o=st;i=a;h=a;";
        units("C: a word that is neither the first nor the last one", book, "o h i", "sat", 1);
        units("C: not the first one", book, "h o i", "sat", 0);
        units("C: not the last one", book, "o i h", "sat", 0);
        units("C: not the first nor the last of two words", book, "o h", "sat", 0);
        units("C: not the first nor the last of two words", book, "h o", "sat", 0);
        units("C: the outer piece stands before it", book, "i h o", "sat", 0);
        units("C: the second of six words", "h/C;o=sz;", "o h a b c d", "sabcdz", 1);
        units("C: the fifth of six words", "h/C;i=x;", "a b c d h i", "abcxd", 1);
        units("C: one word is the indicator, and the other h is a piece", book, "o h h", "sat", 1);
        units("C: no word is an indicator", "h/R;o=st;i=a;", "o h i", "sat", 0);
    }

    private static void containerLetters() {
        String book = "h/C;o=st;i=a;";
        units("C: inserted not at the beginning", book, "o h i", "ast", 0);
        units("C: inserted not at the end", book, "o h i", "sta", 0);
        units("C: inserted not into one letter", "h/C;o=s;i=at;", "o h i", "sat", 0);
        units("C: the least letters: two and one", "h/C;o=aa;i=a;", "o h i", "aaa", 1);
        run("C: two letters have no room", made("h/C;o=a;i=a;", "o h i", "aa") + span("0, 3, 0, 2", 0, 0, ClueParts.NONE)
                + span("0, 3, 0, 1", 0, 0, ClueParts.NONE));
        units("C: two letters around six", "h/C;o=ab;i=cdefgh;", "o h i", "acdefghb", 1);
        units("C: seven letters around one", "h/C;o=abcdefg;i=z;", "o h i", "abcdefzg", 1);
        units("C: the inner letters at one place, not at two", "h/C;o=sut;i=ab;", "o h i", "saubt", 0);
        units("C: the inner letters in their order", "h/C;o=st;i=ab;", "o h i", "sbat", 0);
        units("C: the inner letters all", "h/C;o=st;i=abc;", "o h i", "sabt", 0);
        units("C: the outer letters all", "h/C;o=stu;i=a;", "o h i", "sat", 0);
        units("C: different positions are different units", "h/C;o=aaaaaaa;i=a;", "o h i", "aaaaaaaa", 6);
        units("C: different positions are different units", "h/C;o=aa;i=aaaaaa;", "o h i", "aaaaaaaa", 1);
        units("C: the outer words are a piece", "h/C;p=s;q=t;i=a;", "p q h i", "sat", 1);
        units("C: the inner words are a piece", "h/C;o=st;i=a;k=b;", "o h i k", "sabt", 1);
        units("C: in the outer or in the inner piece of another", "h/C;o=sx;i=ty;k=u;", "o h i h k", "stuyx", 2);
        units("C: in the outer piece of another", "h/C;o=sx;i=ty;k=u;", "o h i h k", "sutyx", 1);
        run("C: the weight and the costs of the pieces", made(book, "o h i", "sat") + "pieceCost(0, 3, 0, 3) = 3;"
                + "weigh(4, 0) = 1; pieceCost(0, 3, 0, 3) = 2; weigh(4, 9) = 0; pieceCost(0, 3, 0, 3) = 11");
    }

    private static void insertionWords() {
        String book = "h/N;o=st;i=a;h=a;";
        units("N: a word that is neither the first nor the last one", book, "i h o", "sat", 1);
        units("N: not the first one", book, "h i o", "sat", 0);
        units("N: not the last one", book, "i o h", "sat", 0);
        units("N: not the first nor the last of two words", book, "h o", "sat", 0);
        units("N: not the first nor the last of two words", book, "o h", "sat", 0);
        units("N: the inner piece stands before it", book, "o h i", "sat", 0);
        units("N: the second of six words", "h/N;i=x;", "i h a b c d", "abcxd", 1);
        units("N: the fifth of six words", "h/N;o=sz;", "a b c d h o", "sabcdz", 1);
        units("N: one word is the indicator, and the other h is a piece", book, "h h o", "sat", 1);
    }

    private static void insertionLetters() {
        String book = "h/N;o=st;i=a;";
        units("N: inserted not at the beginning", book, "i h o", "ast", 0);
        units("N: inserted not at the end", book, "i h o", "sta", 0);
        units("N: inserted not into one letter", "h/N;o=s;i=at;", "i h o", "sat", 0);
        units("N: the least letters: two and one", "h/N;o=aa;i=a;", "i h o", "aaa", 1);
        units("N: two letters around six", "h/N;o=ab;i=cdefgh;", "i h o", "acdefghb", 1);
        units("N: seven letters around one", "h/N;o=abcdefg;i=z;", "i h o", "azbcdefg", 1);
        units("N: different positions are different units", "h/N;o=aaaaaaa;i=a;", "i h o", "aaaaaaaa", 6);
        units("N: the inner words are a piece", "h/N;o=st;i=a;k=b;", "i k h o", "sabt", 1);
        units("N: the outer words are a piece", "h/N;p=s;q=t;i=a;", "i h p q", "sat", 1);
        units("N and C: the same word is both", "h/N;h/C;o=ss;", "o h o", "ssss", 2);
        run("N: the weight and the costs of the pieces", made(book, "i h o", "sat") + "pieceCost(0, 3, 0, 3) = 3;"
                + "weigh(5, 0) = 1; pieceCost(0, 3, 0, 3) = 2; weigh(5, 9) = 0; pieceCost(0, 3, 0, 3) = 11");
    }

    private static void hiddenWords() {
        units("H: the first word", "s/H;", "s cab bed", "abbe", 1);
        units("H: not the last word", "s/H;", "cab bed s", "abbe", 0);
        units("H: not a word in the middle", "s/H;", "cab s bed", "abbe", 0);
        units("H: at least two other words: one", "s/H;", "s cabbed", "abbe", 0);
        run("H: at least two other words: one, in the middle or at the end", made("s/H;", "x s cabbed x", "abbe")
                + span("1, 3, 0, 4", 0, 0, ClueParts.NONE) + "clue \"x x x x s cabbed\" = 6; "
                + span("4, 6, 0, 4", 0, 0, ClueParts.NONE));
        units("H: at least two other words: two", "s/H;", "s cab bed", "bb", 1);
        run("H: at least two other words: two, in the middle or at the end", made("s/H;", "x s cab bed x", "abbe")
                + span("1, 4, 0, 4", 1, 1, 2) + "clue \"x x x s cab bed\" = 6; " + span("3, 6, 0, 4", 1, 1, 2));
        units("H: at least two other words: five", "s/H;", "s ab c d e fg", "bcdef", 1);
        units("H: the words themselves, not what they may stand for", "s/H;p=cab;q=bed;", "s p q", "abbe", 0);
        units("H: no word is an indicator", "s/I;", "s cab bed", "abbe", 0);
    }

    private static void hiddenLetters() {
        units("H: beginning not with the first letter", "s/H;", "s cab bed", "cabbe", 0);
        units("H: beginning with the second letter", "s/H;", "s cab bed", "abb", 1);
        units("H: beginning with the last letter of the first word", "s/H;", "s cab bed", "bbe", 1);
        units("H: beginning in the first word, not in the second", "s/H;", "s cab bed", "be", 0);
        units("H: beginning in the first word: it has one letter", "s/H;", "s b bed", "bb", 0);
        units("H: beginning in the first word: it has one letter", "s/H;", "s a bed", "be", 0);
        units("H: ending not with the last letter", "s/H;", "s cab bed", "abbed", 0);
        units("H: ending with the last letter but one", "s/H;", "s cab bed", "bbe", 1);
        units("H: ending in the last word, not in the first one", "s/H;", "s cabe bed", "ab", 0);
        units("H: ending in the last word: it has one letter", "s/H;", "s cab b", "bb", 0);
        units("H: ending in the last word, not in one between", "s/H;", "s ab cd ef", "bc", 0);
        units("H: ending in the last word, not with the one before it", "s/H;", "s ab cd ef", "bcd", 0);
        units("H: beginning in the first word, not in one between", "s/H;", "s ab cd ef", "cde", 0);
        units("H: from the first word to the last one", "s/H;", "s ab cd ef", "bcde", 1);
        units("H: one after the other", "s/H;", "s cab bed", "abe", 0);
        units("H: 8 letters", "s/H;", "s abcdefg hij", "bcdefghi", 1);
        units("H: different places are different units: the least letters", "s/H;", "s aaaaaaa aaaaaaa", "aa", 1);
        units("H: different places are different units: 8 letters", "s/H;", "s aaaaaaa aaaaaaa", "aaaaaaaa", 5);
        units("H: different places are different units: 7 letters", "s/H;", "s aaaaaaa aaaaaaa", "aaaaaaa", 6);
        run("H: two letters at least by its words, one is never there", made("s/H;", "s aa aa", "aa")
                + span("0, 3, 0, 1", 0, 0, ClueParts.NONE) + span("0, 3, 0, 2", 1, 1, 2));
        run("H: its cost is the weight", made("s/H;", "s cab bed", "bb") + "pieceCost(0, 3, 0, 2) = 2;"
                + "weigh(6, 0) = 2; pieceCost(0, 3, 0, 2) = 0; weigh(6, 9) = 0; pieceCost(0, 3, 0, 2) = 9");
    }

    private static void beheaded() {
        units("B: exactly one word after it", "k/B;", "k zab", "ab", 1);
        units("B: exactly one word after it: two", "k/B;", "k za b", "ab", 0);
        units("B: exactly one word after it: two", "k/B;", "k a zb", "ab", 0);
        units("B: after it, not before it", "k/B;", "zab k", "ab", 0);
        units("B: without the first letter, not the last", "k/B;", "k abz", "ab", 0);
        units("B: without the first letter, not with it", "k/B;", "k ab", "ab", 0);
        units("B: without the first letter, not two", "k/B;", "k yzab", "ab", 0);
        units("B: this word itself, and each entry", "k/B;zab=yab;zab=xab;zab=abx;zab=ab;", "k zab", "ab", 3);
        units("B: the entry 0", "w=zab;k/B;", "k w", "ab", 1);
        units("B: an entry for the longest letters", "k/B;w=abcdefgh;", "k w", "bcdefgh", 1);
        units("B: the longest word", "k/B;", "k abcdefg", "bcdefg", 1);
        run("B: one or more letters: of two letters one is left", made("k/B;w=ba;", "k w", "ab") + span("0, 2, 0, 1", 1, 1, 3));
        run("B: one or more letters: of one letter none is left", made("k/B;w=a;", "k w", "aw")
                + span("0, 2, 0, 1", 0, 0, ClueParts.NONE) + span("0, 2, 1, 2", 0, 0, ClueParts.NONE)
                + span("0, 2, 0, 2", 0, 0, ClueParts.NONE));
        run("B: an indicator entry stands for nothing", made("k/B;w/R;w/B;", "k w", "ab") + span("0, 2, 0, 2", 0, 0,
                ClueParts.NONE));
        run("B: the weight of B plus that of itself or given", made("k/B;zab=yab;", "k zab", "ab")
                + "pieceCost(0, 2, 0, 2) = 3; weigh(0, 9) = 1; pieceCost(0, 2, 0, 2) = 5; weigh(7, 9) = 2;"
                + "pieceCost(0, 2, 0, 2) = 12; weigh(1, 9) = 3; pieceCost(0, 2, 0, 2) = 18; weigh(7, 0) = 9;"
                + "pieceCost(0, 2, 0, 2) = 9; weigh(0, 0) = 9; pieceCost(0, 2, 0, 2) = 0; weigh(8, 9) = 2;"
                + "pieceCost(0, 2, 0, 2) = 0");
    }

    private static void curtailed() {
        units("T: exactly one word after it", "k/T;", "k abz", "ab", 1);
        units("T: exactly one word after it: two", "k/T;", "k a bz", "ab", 0);
        units("T: after it, not before it", "k/T;", "abz k", "ab", 0);
        units("T: without the last letter, not the first", "k/T;", "k zab", "ab", 0);
        units("T: without the last letter, not with it", "k/T;", "k ab", "ab", 0);
        units("T: without the last letter, not two", "k/T;", "k abyz", "ab", 0);
        units("T: this word itself, and each entry", "k/T;abz=aby;abz=abx;abz=xab;abz=ab;", "k abz", "ab", 3);
        units("T: the entry 0", "w=abz;k/T;", "k w", "ab", 1);
        units("T: an entry for the longest letters", "k/T;w=abcdefgh;", "k w", "abcdefg", 1);
        units("T: the longest word", "k/T;", "k abcdefg", "abcdef", 1);
        run("T: one or more letters: of two letters one is left", made("k/T;w=ab;", "k w", "ab") + span("0, 2, 0, 1", 1, 1, 3));
        run("T: one or more letters: of one letter none is left", made("k/T;w=a;", "k w", "aw")
                + span("0, 2, 0, 1", 0, 0, ClueParts.NONE) + span("0, 2, 1, 2", 0, 0, ClueParts.NONE)
                + span("0, 2, 0, 2", 0, 0, ClueParts.NONE));
        run("T: the weight of T plus that of itself or given", made("k/T;abz=aby;", "k abz", "ab")
                + "pieceCost(0, 2, 0, 2) = 3; weigh(0, 9) = 1; pieceCost(0, 2, 0, 2) = 5; weigh(8, 9) = 2;"
                + "pieceCost(0, 2, 0, 2) = 12; weigh(1, 9) = 3; pieceCost(0, 2, 0, 2) = 18; weigh(8, 0) = 9;"
                + "pieceCost(0, 2, 0, 2) = 9; weigh(0, 0) = 9; pieceCost(0, 2, 0, 2) = 0; weigh(7, 9) = 2;"
                + "pieceCost(0, 2, 0, 2) = 0");
    }

    private static void initials() {
        run("I: of all other words, at least one: one", made("f/I;", "f art", "ab") + span("0, 2, 0, 1", 1, 1, 2)
                + span("0, 2, 1, 2", 0, 0, ClueParts.NONE) + span("0, 1, 0, 1", 0, 0, ClueParts.NONE));
        run("I: no unit of the indicator alone", made("a/I;", "a b", "ab") + span("0, 1, 0, 1", 1, 1, 3));
        units("I: of all other words: two", "f/I;", "f art bee", "ab", 1);
        units("I: of all other words: five", "f/I;", "f art bee cat dog eel", "abcde", 1);
        units("I: of all other words, not without the last", "f/I;", "f art bee cat", "ab", 0);
        units("I: of all other words, not with the indicator", "f/I;", "f art bee", "fab", 0);
        units("I: the first letters, not more of them", "f/I;", "f art", "ar", 0);
        units("I: the first letters, in their order", "f/I;", "f art bee", "ba", 0);
        units("I: the first word is the indicator, not the last one", "f/I;", "art bee f", "ab", 0);
        units("I: the first word is the indicator, not one in the middle", "f/I;", "art f bee", "ab", 0);
        units("I: the words themselves, not what they may stand for", "f/I;p=art;q=bee;", "f p q", "ab", 0);
        run("I: its cost is the weight", made("f/I;", "f art bee", "ab") + "pieceCost(0, 3, 0, 2) = 2;"
                + "weigh(9, 0) = 2; pieceCost(0, 3, 0, 2) = 0; weigh(9, 9) = 0; pieceCost(0, 3, 0, 2) = 9");
    }

    private static void link() {
        run("L: occurs only in parses, never in a piece", made("l/L;p=ab;", "p l l", "ab") + span("0, 2, 0, 2", 0, 0,
                ClueParts.NONE) + span("1, 3, 0, 2", 0, 0, ClueParts.NONE) + span("0, 1, 0, 2", 1, 1, 1)
                + span("0, 3, 0, 2", 0, 0, ClueParts.NONE));
    }

    private static void differentUnits() {
        units("different: the word that is the indicator", "r/R;r=ab;", "r r", "ba", 2);
        units("different: the sort", "k/B;k/T;w=aaa;", "k w", "aa", 2);
        units("different: the entry", "k/B;w=xa;w=ya;w=za;w=aa;", "k w", "aa", 0);
        run("different: the entry", made("k/B;w=xa;w=ya;w=za;w=aa;", "k w", "aa") + span("0, 2, 0, 1", 4, 4, 3));
        units("different: the pieces in them", "r/R;a=a;", "r a aa", "aaa", 2);
        units("different: the inner and the outer piece", "h/C;a=a;aa=aa;", "aa h a", "aaa", 4);
        run("different pieces: one of their units", made("a=a;a=aa;", "a a a", "aaaa") + span("0, 1, 0, 1", 2, 2, 1)
                + span("0, 2, 0, 3", 4, 0, 2) + span("0, 3, 0, 4", 12, 0, 3));
    }

    private static void pieces() {
        run("a piece: one or more units", made("p=a;q=b;s=c;", "p q s", "abc") + span("0, 1, 0, 1", 1, 1, 1)
                + span("0, 2, 0, 2", 1, 0, 2) + span("0, 3, 0, 3", 1, 0, 3));
        run("a piece: its words in their order", made("p=a;q=b;", "q p", "ab") + span("0, 2, 0, 2", 0, 0, ClueParts.NONE));
        run("a piece: its words without a gap", made("p=a;q=b;", "p x q", "ab") + span("0, 3, 0, 2", 0, 0, ClueParts.NONE));
        run("a piece: each word is in one unit only", made("p=a;p=ab;", "p p", "ab") + span("0, 2, 0, 2", 0, 0,
                ClueParts.NONE));
        run("a piece: each unit spells one or more letters", made("p=ab;k/B;w=x;", "p k w", "ab") + span("0, 3, 0, 2", 0, 0,
                ClueParts.NONE));
        run("a piece: six words, six units", made("", "a b c d e f", "abcdef") + span("0, 6, 0, 6", 1, 0, 18)
                + span("1, 6, 1, 6", 1, 0, 15) + span("0, 5, 0, 5", 1, 0, 15));
        run("a piece: fewer letters than words have no room", made("a=a;", "a a a a a a", "aaaaa")
                + span("0, 6, 0, 5", 0, 0, ClueParts.NONE) + span("0, 5, 0, 5", 32, 0, 5));
        run("20: units are pieces of a single unit", made("r/R;a=a;a=ab;ab=b;", "a r ab", "ab") + span("0, 1, 0, 2", 1, 1, 1)
                + span("0, 3, 0, 2", 0, 0, ClueParts.NONE) + span("2, 3, 1, 2", 1, 1, 1));
    }

    /**
     * The greatest numbers that a search found. All letters are equal, and so are all words, so that the numbers can be
     * worked out from the numbers of words and letters alone.
     */
    private static void greatestNumbers() {
        String signs = "aa/R;aa/C;aa/N;aa/B;aa/T;aa/I;";
        String letters = "aa=a;aa=aa;aa=aaa;aa=aaaa;aa=aaaaa;aa=aaaaaa;";
        String beheaded = "aa=ba;aa=ca;aa=da;aa=ea;aa=fa;aa=ga;aa=ha;aa=ia;";
        greatestPieces(signs + letters + beheaded + "aa=ja;aa=ka;aa=la;aa=ma;");
        greatestParses(signs + "aa/L;" + letters + "aa=aaaaaaa;aa=aaaaaaaa;" + beheaded + "aa=ab;");
    }

    private static void greatestPieces(String book) {
        long[][] units = new long[7][9];
        long[][] pieces = new long[7][9];
        workOut(book, units, pieces);
        Check.due("the greatest number of pieces", pieces[6][8], 519014);
        run("numbers up to 1000000 are returned as they are", made(book, "aa aa aa aa aa aa", "aaaaaaaa")
                + "pieces(0, 6, 0, 8) = " + pieces[6][8] + "; units(0, 6, 0, 8) = " + units[6][8] + "; units(0, 5, 0, 8) = "
                + units[5][8] + "; pieces(1, 6, 1, 8) = " + pieces[5][7]);
    }

    /** The definition may be the first or the last word, and the link is one more of the words aa. */
    private static void greatestParses(String book) {
        long[][] pieces = new long[7][9];
        workOut(book, new long[7][9], pieces);
        long parses = 2 * pieces[5][8] + 2 * pieces[4][8];
        Check.due("the greatest number of parses", parses, 83880);
        run("numbers of parses up to 1000000 are returned as they are", made(book, "aa aa aa aa aa aa", "aaaaaaaa")
                + "parses() = " + parses + "; without(6) = " + 2 * pieces[5][8] + "; count(5) = 24");
    }

    /** How many units and pieces n words aa are for m letters a, for all n and m. */
    private static void workOut(String book, long[][] units, long[][] pieces) {
        for (int n = 1; n <= 6; n++) {
            for (int m = 1; m <= 8; m++) {
                units[n][m] = n == 1 ? singleWords(book, m) : severalWords(book, pieces, n, m);
                pieces[n][m] = units[n][m];
                for (int head = 1; head < n; head++) {
                    for (int letters = 1; letters < m; letters++) {
                        pieces[n][m] += units[head][letters] * pieces[n - head][m - letters];
                    }
                }
            }
        }
    }

    /** In how many ways the word aa is so many letters a: by an entry, or itself. */
    private static int singleWords(String book, int letters) {
        return (book.contains("aa=" + "a".repeat(letters) + ";") ? 1 : 0) + (letters == 2 ? 1 : 0);
    }

    /** How many units n words aa are for m letters a: reversals, containers, insertions, shortened words, initials. */
    private static long severalWords(String book, long[][] pieces, int n, int m) {
        long units = m < 2 ? 0 : 2 * pieces[n - 1][m];
        for (int before = 1; before < n - 1; before++) {
            for (int inner = 1; inner <= m - 2; inner++) {
                int after = n - 1 - before;
                int places = m - inner - 1;
                units += places * (pieces[before][m - inner] * pieces[after][inner]
                        + pieces[before][inner] * pieces[after][m - inner]);
            }
        }
        return units + (n == 2 ? shortenedWords(book, m) : 0) + (n - 1 == m ? 1 : 0);
    }

    /** In how many ways B and T leave so many letters a of the word aa, or of what it may stand for. */
    private static int shortenedWords(String book, int letters) {
        String left = "a".repeat(letters);
        int ways = letters == 1 ? 2 : 0;
        for (String entry : book.split(";")) {
            if (entry.startsWith("aa=")) {
                String whole = entry.substring(3);
                ways += whole.substring(1).equals(left) ? 1 : 0;
                ways += whole.substring(0, whole.length() - 1).equals(left) ? 1 : 0;
            }
        }
        return ways;
    }
}
