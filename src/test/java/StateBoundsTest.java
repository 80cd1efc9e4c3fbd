/**
 * The boundary cases of weights, letters, offers and counts: promises 1 (weights, clue and answer), 9 weigh,
 * 12 clueLetter, 13 answerLetter, 22 offer, 23 ifOffer, 24 take, 25 without, 26 count; and the error codes.
 */
public final class StateBoundsTest extends Bounds {
    private static final String CLUE = "abcdefg h ij klm nopq rstuv";

    public static void main(String[] args) {
        newObject();
        weighArguments();
        weights();
        clueLetter();
        answerLetter();
        whichOffers();
        offer();
        ifOffer();
        take();
        without();
        countArguments();
        counts();
        needs();
        codes();
        lastCall();
        noCallThrows();
        Check.end();
    }

    private static void newObject() {
        run("1: the first clue", """
                count(1) = 3; clueLetter(0, -1) = 4; clueLetter(1, -1) = 4; clueLetter(2, -1) = 6; clueLetter(0, 0) = 'p'
                clueLetter(0, 3) = 't'; clueLetter(1, 0) = 'b'; clueLetter(1, 3) = 'k'; clueLetter(2, 0) = 's'
                clueLetter(2, 5) = 'r'; clueLetter(3, 0) = BAD""");
        run("1: the first answer", "count(2) = 3; answerLetter(0) = 't'; answerLetter(1) = 'a'; answerLetter(2) = 'r'");
        run("1: the first weights", """
                weigh(0, 1) = NO; weigh(1, 3) = NO; weigh(2, 1) = NO; weigh(3, 2) = NO; weigh(4, 1) = NO; weigh(5, 1) = NO
                weigh(6, 2) = NO; weigh(7, 2) = NO; weigh(8, 2) = NO; weigh(9, 2) = NO; weigh(10, 0) = NO""");
        run("1: the first counts", """
                count(0) = 14; count(1) = 3; count(2) = 3; count(3) = 2; count(4) = 0; count(5) = 3; count(6) = 5""");
        run("1: the first parse", "parses() = 1; cost() = 2; cheapest() = 1; line = \">sailor=R(rat)\"");
    }

    private static void weighArguments() {
        run("9: sort is 0 to 10", """
                weigh(-1, 5) = BAD; weigh(11, 5) = BAD; weigh(LEAST, 5) = BAD; weigh(MOST, 5) = BAD; weigh(32, 5) = BAD
                weigh(0, 5) = 1; weigh(10, 5) = 0; weigh(11, 5) = BAD; weigh(-1, 5) = BAD""");
        run("9: w is 0 to 9", """
                weigh(0, -1) = BAD; weigh(0, 10) = BAD; weigh(0, LEAST) = BAD; weigh(0, MOST) = BAD; weigh(10, -1) = BAD
                weigh(10, 10) = BAD; weigh(0, 0) = 1; weigh(0, 9) = 0; weigh(0, 10) = BAD; weigh(0, -1) = BAD
                weigh(0, 9) = NO; weigh(10, 9) = 0; weigh(10, 0) = 9; weigh(10, -1) = BAD""");
        run("9: both out of range", "weigh(-1, -1) = BAD; weigh(11, 10) = BAD; weigh(LEAST, MOST) = BAD");
    }

    private static void weights() {
        run("9: NO if it is this weight already", """
                weigh(2, 1) = NO; cost() = 2; weigh(2, 9) = 1; weigh(2, 9) = NO; cost() = 10; weigh(2, 0) = 9
                weigh(2, 0) = NO; cost() = 1; weigh(2, 1) = 0; weigh(2, 1) = NO; cost() = 2""");
        StringBuilder all = new StringBuilder();
        int[] first = {1, 3, 1, 2, 1, 1, 2, 2, 2, 2, 0};
        for (int sort = 0; sort <= 10; sort++) {
            all.append("weigh(").append(sort).append(", 9) = ").append(first[sort]).append('\n');
        }
        for (int sort = 0; sort <= 10; sort++) {
            all.append("weigh(").append(sort).append(", ").append(sort % 9).append(") = 9\n");
        }
        for (int sort = 10; sort >= 0; sort--) {
            all.append("weigh(").append(sort).append(", 9) = ").append(sort % 9).append('\n');
        }
        run("9: each sort has its own weight, and answers the weight that it had", all.toString());
        run("9: two objects have their own weights", "weigh(0, 9) = 1; weigh(0, 9) = NO");
        run("9: two objects have their own weights", "weigh(0, 1) = NO; weigh(0, 9) = 1");
    }

    private static void clueLetter() {
        run("12: BAD if there is no such word", """
                clueLetter(-1, 0) = BAD; clueLetter(3, 0) = BAD; clueLetter(3, -1) = BAD; clueLetter(6, 0) = BAD
                clueLetter(LEAST, 0) = BAD; clueLetter(MOST, 0) = BAD; clueLetter(-1, -1) = BAD
                clueLetter(0, 0) = 'p'; clueLetter(2, 0) = 's'""");
        run("12: BAD if i is less than -1", """
                clueLetter(0, -2) = BAD; clueLetter(2, -2) = BAD; clueLetter(0, LEAST) = BAD; clueLetter(0, -1) = 4""");
        run("12: NONE if the word has not so many letters", """
                clueLetter(0, 3) = 't'; clueLetter(0, 4) = NONE; clueLetter(0, 5) = NONE; clueLetter(2, 5) = 'r'
                clueLetter(2, 6) = NONE; clueLetter(2, 12) = NONE; clueLetter(2, 13) = NONE; clueLetter(2, MOST) = NONE""");
        run("12: NONE is returned only if no error code applies", """
                clueLetter(3, 99) = BAD; clueLetter(-1, 99) = BAD; clueLetter(2, 99) = NONE""");
        run("12: the longest clue", "clue \"" + CLUE + "\" = 6;" + """
                clueLetter(0, -1) = 7; clueLetter(0, 6) = 'g'; clueLetter(0, 7) = NONE; clueLetter(1, -1) = 1
                clueLetter(1, 0) = 'h'; clueLetter(1, 1) = NONE; clueLetter(5, -1) = 5; clueLetter(5, 4) = 'v'
                clueLetter(5, 5) = NONE; clueLetter(6, 0) = BAD; clueLetter(6, -1) = BAD""");
        run("12: the shortest clue", """
                clue "a b" = 2; clueLetter(0, -1) = 1; clueLetter(0, 0) = 'a'; clueLetter(0, 1) = NONE; clueLetter(1, 0) = 'b'
                clueLetter(1, 1) = NONE; clueLetter(2, 0) = BAD; clueLetter(2, -1) = BAD""");
    }

    private static void answerLetter() {
        run("13: BAD if i is negative", "answerLetter(-1) = BAD; answerLetter(-2) = BAD; answerLetter(LEAST) = BAD");
        run("13: NONE if the answer has not so many letters", """
                answerLetter(2) = 'r'; answerLetter(3) = NONE; answerLetter(4) = NONE; answerLetter(12) = NONE
                answerLetter(64) = NONE; answerLetter(MOST) = NONE""");
        run("13: the shortest answer", "answer \"az\" = 2; answerLetter(0) = 'a'; answerLetter(1) = 'z'; answerLetter(2) = NONE");
        run("13: the longest answer", """
                answer "zyxwvuts" = 8; answerLetter(0) = 'z'; answerLetter(7) = 's'; answerLetter(8) = NONE
                answerLetter(9) = NONE; answerLetter(-1) = BAD""");
    }

    private static void whichOffers() {
        run("offers: at least two letters", made("a=x;", "a b", "qq") + "offer(-1) = 0; count(3) = 0; offer(0) = NONE;"
                + "learn \"a=xy;\" = 1; offer(-1) = 1; offer(0) = 1; offer(1) = NONE; learn \"a=abcdefgh;\" = 1; offer(-1) = 2;"
                + "offer(1) = 2");
        run("offers: the first or the last word, not one in the middle", made("m=pq;l=rs;f=tu;x=vw;", "f m l", "qq")
                + "offer(-1) = 2; offer(0) = 1; offer(1) = 2; offer(2) = NONE; clue \"m f l m\" = 4; offer(-1) = 1; offer(0) = 0;"
                + "clue \"m l\" = 2; offer(-1) = 2; offer(0) = 0; offer(1) = 1");
        run("offers: by an entry, not itself and not as an indicator", made("a/R;b/L;", "a bb", "qq") + "offer(-1) = 0;"
                + "offer(0) = NONE; count(3) = 0");
        run("offers: different sequences; the entry is the lowest one", made("m=xy;b=xy;a=xy;a=yx;b=yx;a=xyx;", "a m b", "qq")
                + "offer(-1) = 3; offer(0) = 1; offer(1) = 3; offer(2) = 5; offer(3) = NONE; forget(1) = 5; offer(-1) = 3;"
                + "offer(0) = 1; offer(1) = 2; offer(2) = 4; clue \"b b\" = 2; offer(-1) = 1; offer(0) = 3");
        run("offers: the entry is the lowest one: entry 0", made("b=xy;a=xy;", "a b", "qq") + "offer(-1) = 1; offer(0) = 0;"
                + "offer(1) = NONE; take(0) = 2; take(1) = BAD; forget(0) = 1; offer(-1) = 1; offer(0) = 0; take(0) = NO");
        run("offers: numbered in the order of their entries, not of the words", made("b=zz;a=yy;b=xx;a=aa;", "a b", "qq")
                + "offer(0) = 0; offer(1) = 1; offer(2) = 2; offer(3) = 3; offer(4) = NONE");
        StringBuilder book = new StringBuilder();
        for (char c = 'a'; c < 'a' + 24; c++) {
            book.append("a=").append(c).append("z;");
        }
        run("offers: as many as the book has entries", made(book.toString(), "a b", "qq") + "offer(-1) = 24; count(3) = 24;"
                + "offer(0) = 0; offer(23) = 23; offer(24) = NONE; ifOffer(23, 0) = 0; ifOffer(24, 0) = BAD; take(24) = BAD;"
                + "take(23) = 2; answerLetter(0) = 'x'");
    }

    private static void offer() {
        run("22: BAD if i is less than -1", "offer(-2) = BAD; offer(LEAST) = BAD; offer(-1) = 2; offer(0) = 0");
        run("22: NONE if there is no such offer", "offer(1) = 1; offer(2) = NONE; offer(3) = NONE; offer(MOST) = NONE");
        run("22: NONE is returned only if no error code applies", """
                clue "x y" = 2; offer(-1) = 0; offer(0) = NONE; offer(-2) = BAD; offer(LEAST) = BAD; offer(MOST) = NONE""");
    }

    private static void ifOffer() {
        run("23: BAD if there is no such offer", """
                ifOffer(-1, 0) = BAD; ifOffer(-1, 1) = BAD; ifOffer(2, 0) = BAD; ifOffer(2, 1) = BAD; ifOffer(LEAST, 0) = BAD
                ifOffer(MOST, 1) = BAD; ifOffer(0, 0) = 1; ifOffer(1, 0) = 1; clue "x y" = 2; ifOffer(0, 0) = BAD
                ifOffer(0, 1) = BAD; ifOffer(-1, 0) = BAD""");
        run("23: BAD if what is not 0 or 1", """
                ifOffer(0, -1) = BAD; ifOffer(0, 2) = BAD; ifOffer(0, LEAST) = BAD; ifOffer(0, MOST) = BAD
                ifOffer(2, 2) = BAD; ifOffer(-1, -1) = BAD; ifOffer(0, 0) = 1; ifOffer(0, 1) = 2; ifOffer(1, 1) = 2""");
        run("23: NONE if there would be no parse, and 0 parses", made("d=xy;d=ab;", "d ab", "qq") + """
                ifOffer(0, 0) = 0; ifOffer(0, 1) = NONE; ifOffer(1, 0) = 1; ifOffer(1, 1) = 3""");
        run("23: NONE is returned only if no error code applies", made("d=xy;", "d ab", "qq") + """
                ifOffer(1, 1) = BAD; ifOffer(0, 2) = BAD; ifOffer(-1, 1) = BAD; ifOffer(0, 1) = NONE""");
        run("23: a parse that costs nothing is not NONE", made("d=ab;", "d ab", "qq") + "weigh(1, 0) = 3; ifOffer(0, 1) = 0");
        run("23: an offer of 2 letters, and one of 8", made("d=ab;d=abcdefgh;w=abcdefgh;", "d w", "qq") + """
                ifOffer(0, 0) = 0; ifOffer(1, 0) = 2; ifOffer(1, 1) = 1""");
        run("23: the present answer stays", """
                ifOffer(1, 0) = 1; answerLetter(0) = 't'; ifOffer(1, 1) = 2; line = ">sailor=R(rat)"; parses() = 1""");
    }

    private static void take() {
        run("24: BAD if there is no such offer", """
                take(-1) = BAD; take(2) = BAD; take(LEAST) = BAD; take(MOST) = BAD; answerLetter(0) = 't'; take(1) = 3
                take(2) = BAD; take(-1) = BAD; clue "x y" = 2; take(0) = BAD; take(-1) = BAD""");
        run("24: NO if it is the answer already", """
                take(0) = NO; answerLetter(0) = 't'; take(1) = 3; answerLetter(0) = 'r'; take(1) = NO; take(0) = 3
                take(0) = NO; answer "rat" = 3; take(1) = NO; take(0) = 3""");
        run("24: the number of letters, 2 to 8", made("d=ab;d=abcdefgh;", "d ab", "qq") + """
                take(0) = 2; count(2) = 2; answerLetter(1) = 'b'; answerLetter(2) = NONE; parses() = 1; take(1) = 8
                count(2) = 8; answerLetter(7) = 'h'; answerLetter(8) = NONE; parses() = 0; pieces(0, 1, 0, 8) = 1
                take(0) = 2; count(2) = 2; answerLetter(2) = NONE; line = "<d='ab"; pieces(0, 1, 0, 8) = BAD""");
        run("24: an answer that only begins like the offer is another one", made("d=abc;d=ab;", "d ab", "abcd") + """
                take(0) = 3; take(1) = 2; take(1) = NO; take(0) = 3""");
        run("24: BAD is checked before NO", "take(0) = NO; take(2) = BAD; forget(0) = 13; take(1) = BAD; take(0) = 3");
    }

    private static void without() {
        run("25: BAD if there is no such entry", """
                without(-1) = BAD; without(14) = BAD; without(24) = BAD; without(LEAST) = BAD; without(MOST) = BAD
                without(0) = 0; without(13) = 1; forget(13) = 13; without(13) = BAD; without(12) = 1""");
        run("25: a book without entries", "book \"\"; without(0) = BAD; without(-1) = BAD");
        run("25: the definition, the letters, the indicator, and all others", """
                without(0) = 0; without(1) = 0; without(2) = 1; without(3) = 1; without(4) = 1; without(5) = 0; without(6) = 1
                without(7) = 1; without(8) = 1; without(9) = 1; without(10) = 1; without(11) = 1; without(12) = 1""");
        run("25: without any parse", made("d=ab;", "d w", "ab") + "without(0) = 0; parses() = 0");
        run("25: the last entry of a full book", made("a=a;a=b;a=c;a=d;a=e;a=f;a=g;a=h;a=i;a=j;a=k;a=l;a=m;a=n;a=o;a=p;a=q;"
                + "a=r;a=s;a=t;a=u;a=v;w=ab;d=ab;", "d w", "ab") + "parses() = 2; without(23) = 0; without(22) = 0;"
                + "without(21) = 2; without(0) = 2; without(24) = BAD; count(5) = 2");
        run("25: the link", made("d=ab;l/L;", "d l ab", "ab") + "parses() = 1; without(1) = 0; without(0) = 0; count(5) = 2");
        run("25: the entry stays in the book", "without(0) = 0; count(0) = 14; entryLetter(0, 0, 0) = 's'; parses() = 1");
    }

    private static void countArguments() {
        run("26: BAD if what is not 0 to 6", """
                count(-1) = BAD; count(7) = BAD; count(8) = BAD; count(LEAST) = BAD; count(MOST) = BAD
                count(0) = 14; count(6) = 5""");
    }

    private static void counts() {
        run("26: the number of words, 2 to 6", "clue \"a b\" = 2; count(1) = 2; clue \"" + CLUE + "\" = 6; count(1) = 6");
        run("26: the number of letters, 2 to 8", "answer \"ab\" = 2; count(2) = 2; answer \"abcdefgh\" = 8; count(2) = 8");
        run("26: the length of the text, 0 to 200", "count(4) = 0; write(97) = 1; count(4) = 1; text \"" + "a".repeat(200)
                + "\"; count(4) = 200; write(97) = FULL; count(4) = 200; wipe() = 200; count(4) = 0");
        run("26: the number of offers", "count(3) = 2; clue \"x pest\" = 2; count(3) = 1; clue \"x y\" = 2; count(3) = 0");
    }

    private static void needs() {
        run("26: entries without which there would be fewer parses: none", made("d=ab;", "d w", "ab") + "count(5) = 0;"
                + "clue \"d ab\" = 2; count(5) = 1; parses() = 1");
        run("26: fewer parses, not none", made("d=ab;ab=ab;x=ab;", "d ab", "ab") + """
                parses() = 3; without(0) = 0; without(1) = 1; without(2) = 3; count(5) = 2""");
        run("26: an entry that is used in one of several parses", made("d=ab;k/B;w=xab;w=yab;w=abx;", "d k w", "ab") + """
                parses() = 2; without(0) = 0; without(1) = 0; without(2) = 1; without(3) = 1; without(4) = 2; count(5) = 4""");
        run("26: an entry that makes the parse dearer is needed too", made("d=ab;ab=ab;", "d ab x", "ab") + """
                count(5) = 0; clue "d ab" = 2; weigh(0, 9) = 1; cheapest() = 1; count(5) = 2""");
        run("26: an entry that all words of the clue need", made("ab=ab;ba=ab;", "ab ab", "ab") + """
                parses() = 4; without(0) = 0; without(1) = 4; count(5) = 1""");
        run("26: all of 24 entries", made("d=ab;k/B;w=aab;w=bab;w=cab;w=dab;w=eab;w=fab;w=gab;w=hab;w=iab;w=jab;w=kab;w=lab;"
                + "w=mab;w=nab;w=oab;w=pab;w=qab;w=rab;w=sab;w=tab;w=uab;w=vab;", "d k w", "ab") + """
                count(0) = 24; parses() = 22; count(5) = 24; without(23) = 21; without(0) = 0""");
    }

    private static void codes() {
        Check.due("BAD", ClueParts.BAD, -1);
        Check.due("NO", ClueParts.NO, -2);
        Check.due("FULL", ClueParts.FULL, -3);
        Check.due("NONE", ClueParts.NONE, -4);
        run("a method that returns an error code changes nothing: all of them, one after the other", """
                text "A"; write(127) = BAD; learn() = NO; forget(14) = BAD; clue() = NO; answer() = NO; weigh(11, 1) = BAD
                weigh(2, 10) = BAD; weigh(2, 1) = NO; entry(0, 4) = BAD; entryLetter(0, 2, 0) = BAD; clueLetter(3, 0) = BAD
                answerLetter(-1) = BAD; sign(0, 1) = BAD; first(-2) = BAD; pieces(0, 0, 0, 1) = BAD
                pieceCost(0, 0, 0, 1) = BAD; units(0, 0, 0, 1) = BAD; offer(-2) = BAD; ifOffer(2, 0) = BAD
                ifOffer(0, 2) = BAD; take(2) = BAD; take(0) = NO; without(14) = BAD; count(7) = BAD
                line = ">sailor=R(rat)"; count(4) = 1""");
        run("a question changes nothing", """
                fault() = NONE; entry(0, 0) = 6; entryLetter(0, 0, 0) = 's'; clueLetter(0, 0) = 'p'; answerLetter(0) = 't'
                sign(1, 2) = 1; parses() = 1; cost() = 2; first(0) = '>'; pieces(0, 2, 0, 3) = 1; pieceCost(0, 2, 0, 3) = 2
                units(0, 2, 0, 3) = 1; cheapest() = 1; offer(-1) = 2; ifOffer(1, 0) = 1; ifOffer(1, 1) = 2; without(0) = 0
                line = ">sailor=R(rat)"; count(5) = 3""");
        run("a question about another answer or book, between two changes", """
                ifOffer(1, 0) = 1; weigh(2, 5) = 1; ifOffer(1, 1) = 6; cost() = 6; without(5) = 0; cost() = 6; count(5) = 3
                take(1) = 3; ifOffer(0, 1) = 6; line = "<pest=R(tar)"; without(0) = 0; line = "<pest=R(tar)"
                forget(5) = 13; ifOffer(0, 0) = 0; ifOffer(0, 1) = NONE; parses() = 0; learn "back/R;" = 1; parses() = 1""");
    }

    private static void lastCall() {
        run("an object is used for at most 512 calls: a change before each question",
                "weigh(2, 5) = 1; cost() = 6; weigh(2, 1) = 5; cost() = 2\n".repeat(127) + """
                weigh(2, 9) = 1; cost() = 10; parses() = 1; first(13) = ')'""");
        run("an object is used for at most 512 calls: changes alone",
                "weigh(2, 5) = 1; weigh(2, 1) = 5\n".repeat(255) + "cost() = 2; first(13) = ')'");
        run("an object is used for at most 512 calls: questions about other books",
                "count(5) = 3; ifOffer(1, 1) = 2\n".repeat(255) + "without(0) = 0; parses() = 1");
        run("an object is used for at most 512 calls: all of these",
                "weigh(2, 5) = 1; count(5) = 3; cost() = 6; ifOffer(1, 1) = 6; weigh(2, 1) = 5; cost() = 2; without(5) = 0\n"
                .repeat(73) + "forget(5) = 13");
    }

    /** What later calls answer is free, but none of them may throw. */
    private static void noCallThrows() {
        int[] numbers = {Integer.MIN_VALUE, -2, -1, 0, 1, 2, 3, 6, 8, 24, 100, 200, Integer.MAX_VALUE};
        ClueParts x = new ClueParts();
        int calls = 0;
        String[] names = {"write1", "wipe0", "fault0", "learn0", "forget1", "clue0", "answer0", "weigh2", "entry2",
            "entryLetter3", "clueLetter2", "answerLetter1", "sign2", "parses0", "cost0", "first1", "pieces4", "pieceCost4",
            "units4", "cheapest0", "offer1", "ifOffer2", "take1", "without1", "count1"};
        for (String name : names) {
            int size = name.charAt(name.length() - 1) - '0';
            int[] arguments = new int[size];
            for (int k = 0; k < Math.pow(numbers.length, size); k++) {
                for (int a = 0, rest = k; a < size; a++, rest /= numbers.length) {
                    arguments[a] = numbers[rest % numbers.length];
                }
                Call.of(name.substring(0, name.length() - 1), arguments).on(x);
                calls++;
            }
        }
        Check.due("more than 512 calls of one object end", calls > 512 ? 1 : 0, 1);
    }
}
