/** The sorts of units, one by one: promises 15 parses, 16 cost, 18 pieces, 19 pieceCost, 20 units, 21 cheapest. */
public final class UnitsTest {
    public static void main(String[] args) {
        givenAndItself();
        reversal();
        anagram();
        container();
        insertion();
        hidden();
        shortened();
        initials();
        sequences();
        parses();
        ranges();
        stateFollowsCalls();
        Check.end();
    }

    /** How many units all words of the clue are for the whole answer, and the lowest cost of them as a piece. */
    private static void whole(String book, String clue, String answer, int units, int cost) {
        ClueParts x = Check.made(book, clue, answer);
        int words = clue.split(" ").length;
        String name = book + " " + clue + " " + answer;
        Check.due(name + " units", x.units(0, words, 0, answer.length()), units);
        if (units > 0) {
            Check.due(name + " cost", x.pieceCost(0, words, 0, answer.length()), cost);
        }
    }

    private static void span(ClueParts x, int i, int j, int a, int b, int pieces, int units, int cost) {
        String name = "(" + i + ", " + j + ", " + a + ", " + b + ")";
        Check.due("pieces" + name, x.pieces(i, j, a, b), pieces);
        Check.due("units" + name, x.units(i, j, a, b), units);
        Check.due("pieceCost" + name, x.pieceCost(i, j, a, b), cost);
    }

    private static void givenAndItself() {
        ClueParts x = Check.made("er=er;x=er;x=e;x=her;", "x er", "er");
        span(x, 0, 1, 0, 2, 1, 1, 1);
        span(x, 0, 1, 0, 1, 1, 1, 1);
        span(x, 0, 1, 1, 2, 0, 0, ClueParts.NONE);
        span(x, 1, 2, 0, 2, 2, 2, 1);
        span(x, 1, 2, 0, 1, 0, 0, ClueParts.NONE);
        Check.due("weigh(0, 5)", x.weigh(0, 5), 1);
        span(x, 1, 2, 0, 2, 2, 2, 3);
        Check.due("parses()", x.parses(), 3);
        Check.due("cost()", x.cost(), 3);
        Check.due("cheapest()", x.cheapest(), 1);
    }

    private static void reversal() {
        whole("b/R;p=top;", "b p", "pot", 1, 2);
        whole("b/R;p=top;", "p b", "pot", 1, 2);
        whole("b/R;p=top;", "p b", "top", 0, 0);
        whole("b/R;p=top;", "b p b", "top", 2, 3);
        whole("b/R;p=top;", "b p b", "pot", 0, 0);
        whole("b/R;", "b top", "pot", 1, 4);
        whole("b/R;", "b to p", "pot", 1, 7);
        whole("b/R;p=aba;", "b p", "aba", 1, 2);
        whole("back/R;", "back back", "kcab", 2, 4);
        whole("b/R;p=hgfedcba;", "b p", "abcdefgh", 1, 2);
        whole("b/R;p=hgfe;q=dcba;", "p q b", "abcdefgh", 1, 3);
        ClueParts x = Check.made("b/R;p=t;", "b p", "tt");
        span(x, 0, 2, 0, 1, 0, 0, ClueParts.NONE);
        x = Check.made("b/R;p=t;", "b p p", "tt");
        span(x, 0, 3, 0, 2, 1, 1, 3);
        x = Check.made("b/R;", "b b", "bb");
        span(x, 0, 2, 0, 1, 0, 0, ClueParts.NONE);
        span(x, 0, 2, 0, 2, 1, 0, 6);
    }

    private static void anagram() {
        whole("x/A;", "x ab", "ba", 1, 2);
        whole("x/A;", "ab x", "ba", 1, 2);
        whole("x/A;", "x ab", "ab", 0, 0);
        whole("x/A;", "x a b", "ba", 1, 2);
        whole("x/A;", "x a b", "ab", 0, 0);
        whole("x/A;", "a x b", "ba", 0, 0);
        whole("x/A;", "x aab", "bba", 0, 0);
        whole("x/A;", "x aab", "baab", 0, 0);
        whole("x/A;", "x aab", "ba", 0, 0);
        whole("x/A;", "x aaa", "aaa", 0, 0);
        whole("x/A;ab=cd;", "x ab", "dc", 0, 0);
        whole("xy/A;", "xy xy", "yx", 2, 2);
        whole("x/A;", "x abcd efgh", "hgfedcba", 1, 2);
        whole("x/A;", "x abcdefg hijklmn", "hgfedcba", 0, 0);
        whole("x/A;", "x zyxwvut z", "zzyxwvut", 1, 2);
        // Sums and products of the letters' numbers are not enough: a + d = b + c, and b * c = a * f.
        whole("x/A;", "x ad", "bc", 0, 0);
        whole("x/A;", "x bc", "af", 0, 0);
        ClueParts x = Check.made("x/A;", "x a", "aa");
        span(x, 0, 2, 0, 1, 0, 0, ClueParts.NONE);
    }

    private static void container() {
        whole("o=st;h/C;i=a;", "o h i", "sat", 1, 3);
        whole("o=st;h/C;i=a;", "o h i", "ast", 0, 0);
        whole("o=st;h/C;i=a;", "o h i", "sta", 0, 0);
        whole("o=st;h/C;i=a;", "i h o", "sat", 0, 0);
        whole("o=st;h/C;i=a;", "h o i", "sat", 0, 0);
        whole("o=st;h/C;i=a;", "o i h", "sat", 0, 0);
        whole("o=a;h/C;i=aa;", "o h i", "aaa", 0, 0);
        whole("o=aaa;h/C;i=a;", "o h i", "aaaa", 2, 3);
        whole("o=aaa;o=aa;h/C;i=a;i=aa;", "o h i", "aaaa", 3, 3);
        whole("o=s;p=t;h/C;i=a;k=b;", "o p h i k", "sabt", 1, 5);
        whole("o=st;h/C;i=ad;k=bc;", "o h i h k", "sabcdt", 2, 5);
        whole("o=sbt;h/C;i=a;k=b;", "o h i", "sabt", 1, 3);
        // The outer piece is a container itself, so its letters have two gaps.
        whole("o=sw;h/C;i=t;k=u;", "o h i h k", "stuw", 1, 5);
        whole("h/C;a=xy;b=z;", "a h h h b", "xzy", 0, 0);
        whole("h/C;", "h h h", "hhh", 0, 0);
        // Reversed letters with a gap.
        whole("r/R;h/C;o=ts;i=a;", "r o h i", "sat", 2, 4);
        whole("r/R;h/C;o=st;i=da;", "o h i r", "sadt", 1, 4);
        whole("r/R;h/C;o=ts;i=xa;", "o r h i r", "saxt", 1, 5);
    }

    private static void insertion() {
        whole("o=st;h/N;i=a;", "i h o", "sat", 1, 3);
        whole("o=st;h/N;i=a;", "i h o", "ast", 0, 0);
        whole("o=st;h/N;i=a;", "i h o", "sta", 0, 0);
        whole("o=st;h/N;i=a;", "o h i", "sat", 0, 0);
        whole("o=st;h/N;i=a;", "h i o", "sat", 0, 0);
        whole("o=aaa;h/N;i=a;", "i h o", "aaaa", 2, 3);
        whole("o=s;p=t;h/N;i=a;k=b;", "i k h o p", "sabt", 1, 5);
        whole("o=ab;i=ba;o=ba;i=ab;h/N;h/C;", "o h i", "abab", 2, 3);
        ClueParts x = Check.made("o=st;h/N;i=a;", "i h o", "sat");
        Check.due("weigh(5, 7)", x.weigh(5, 7), 1);
        Check.due("weigh(4, 9)", x.weigh(4, 9), 1);
        span(x, 0, 3, 0, 3, 1, 1, 9);
    }

    private static void hidden() {
        whole("s/H;", "s cab bed", "abbe", 1, 2);
        whole("s/H;", "s cab bed", "bb", 1, 2);
        whole("s/H;", "s cab bed", "abb", 1, 2);
        whole("s/H;", "s cab bed", "ab", 0, 0);
        whole("s/H;", "s cab bed", "be", 0, 0);
        whole("s/H;", "s cab bed", "cabb", 0, 0);
        whole("s/H;", "s cab bed", "bbed", 0, 0);
        whole("s/H;", "s aaa aaa", "aa", 1, 2);
        whole("s/H;", "s aaa aaa", "aaa", 2, 2);
        whole("s/H;", "s aaa aaa", "aaaa", 1, 2);
        whole("s/H;", "s aaa aaa", "aaaaa", 0, 0);
        whole("s/H;", "s cabbed", "abb", 0, 0);
        whole("s/H;", "s ab c de", "bcd", 1, 2);
        whole("s/H;", "s ab c de", "bc", 0, 0);
        whole("s/H;", "s ab c de", "cd", 0, 0);
        whole("s/H;", "cab bed s", "abb", 0, 0);
        whole("s/H;", "s a bed", "ab", 0, 0);
        whole("s/H;", "s cab b", "ab", 0, 0);
        ClueParts x = Check.made("s/H;", "s aaa aaa", "aaaa");
        Check.due("weigh(6, 5)", x.weigh(6, 5), 2);
        span(x, 0, 3, 0, 3, 2, 2, 5);
    }

    private static void shortened() {
        whole("k/B;w=xab;w=yab;w=abx;", "k w", "ab", 2, 3);
        whole("w=xab;k/B;", "k w", "ab", 1, 3);
        whole("k/B;", "k zab", "ab", 1, 5);
        whole("k/B;", "zab k", "ab", 0, 0);
        whole("k/B;", "k za b", "ab", 0, 0);
        whole("k/B;zab=cab;", "k zab", "ab", 2, 3);
        whole("k/B;w=a;", "k w", "aa", 0, 0);
        whole("k/T;w=abx;w=aby;w=xab;", "k w", "ab", 2, 3);
        whole("k/T;", "k abz", "ab", 1, 5);
        whole("k/T;", "abz k", "ab", 0, 0);
        whole("k/T;", "k ab z", "ab", 0, 0);
        whole("k/T;abz=abc;", "k abz", "ab", 2, 3);
        whole("k/T;w=ijklmnop;", "k w", "ijklmno", 1, 3);
        whole("k/B;w=ijklmnop;", "k w", "jklmnop", 1, 3);
        whole("k/B;k/T;w=aaa;aaa/R;", "k w", "aa", 2, 3);
        ClueParts x = Check.made("k/B;k/T;w=ab;w=a;", "k w", "ab");
        span(x, 0, 2, 0, 1, 1, 1, 3);
        span(x, 0, 2, 1, 2, 1, 1, 3);
        Check.due("weigh(7, 9)", x.weigh(7, 9), 2);
        Check.due("weigh(8, 4)", x.weigh(8, 4), 2);
        Check.due("weigh(0, 7)", x.weigh(0, 7), 1);
        span(x, 0, 2, 0, 1, 1, 1, 11);
        span(x, 0, 2, 1, 2, 1, 1, 16);
        // A word of one letter has no letters left.
        x = Check.made("k/B;k/T;", "k a", "aa");
        span(x, 0, 2, 0, 1, 0, 0, ClueParts.NONE);
    }

    private static void initials() {
        whole("f/I;", "f art bee", "ab", 1, 2);
        whole("f/I;", "f bee cat zoo", "bcz", 1, 2);
        whole("f/I;", "f art bee", "ar", 0, 0);
        whole("f/I;", "art bee f", "ab", 0, 0);
        whole("f/I;", "f a b c d e", "abcde", 1, 2);
        whole("f/I;", "f ab", "ab", 0, 0);
        ClueParts x = Check.made("f/I;", "f art", "ar");
        span(x, 0, 2, 0, 1, 1, 1, 2);
        Check.due("weigh(9, 0)", x.weigh(9, 0), 2);
        span(x, 0, 2, 0, 1, 1, 1, 0);
    }

    private static void sequences() {
        ClueParts x = Check.made("p=a;p=ab;q=bab;q=ab;", "p q ab", "abab");
        span(x, 0, 2, 0, 4, 2, 0, 2);
        span(x, 0, 3, 0, 4, 0, 0, ClueParts.NONE);
        span(x, 1, 3, 0, 4, 1, 0, 4);
        span(x, 0, 1, 2, 4, 1, 1, 1);
        span(x, 2, 3, 2, 4, 1, 1, 3);
        x = Check.made("a=a;a=aa;a=aaa;", "a a a a a a", "aaaaaaaa");
        // 6 numbers of 1 to 3 with the sum 8: 15 with two twos and 6 with one three; each a is read in two ways.
        Check.due("units", x.units(0, 6, 0, 8), 0);
        Check.due("pieces", x.pieces(0, 6, 0, 8), 15 * 16 + 6 * 32);
        Check.due("pieceCost", x.pieceCost(0, 6, 0, 8), 6);
    }

    private static void parses() {
        ClueParts x = Check.made("ab=ab;", "ab ab", "ab");
        Check.due("parses()", x.parses(), 4);
        Check.due("cost()", x.cost(), 1);
        Check.due("cheapest()", x.cheapest(), 2);
        x = Check.made("d=ab;for/L;w=ab;", "d for ab", "ab");
        Check.due("link: parses()", x.parses(), 1);
        Check.due("link: cost()", x.cost(), 3);
        Check.due("link: weigh(10, 4)", x.weigh(10, 4), 0);
        Check.due("link: cost()", x.cost(), 7);
        Check.clue(x, "ab for d", 3);
        Check.due("link before the end: parses()", x.parses(), 1);
        Check.due("link before the end: cost()", x.cost(), 7);
        Check.clue(x, "w for d", 3);
        Check.due("a link next to both definitions: parses()", x.parses(), 2);
        Check.due("a link next to both definitions: cost()", x.cost(), 5);
        Check.clue(x, "d for", 2);
        Check.due("a link and no piece: parses()", x.parses(), 0);
        Check.clue(x, "d w for", 3);
        Check.due("a link at the end: parses()", x.parses(), 0);
        Check.clue(x, "d for for w", 4);
        Check.due("two links: parses()", x.parses(), 0);
        Check.clue(x, "w d w", 3);
        Check.due("w defines too, but d w spells too much: parses()", x.parses(), 0);
        Check.clue(x, "d w", 2);
        Check.due("both define: parses()", x.parses(), 2);
        Check.due("both define: cheapest()", x.cheapest(), 2);
        Check.answer(x, "ba", 2);
        Check.due("nothing defines: parses()", x.parses(), 0);
        Check.due("nothing defines: cost()", x.cost(), ClueParts.NONE);
        Check.due("nothing defines: cheapest()", x.cheapest(), 0);
        x = Check.made("d=ab;l/L;l=a;w=b;w=ab;", "d l w", "ab");
        Check.due("<d=a+b <d-=ab >w-=ab: parses()", x.parses(), 3);
        Check.due("<d=a+b <d-=ab >w-=ab: cost()", x.cost(), 1);
        Check.due("<d=a+b <d-=ab >w-=ab: cheapest()", x.cheapest(), 2);
        Check.due("weigh(10, 1)", x.weigh(10, 1), 0);
        Check.due("<d=a+b <d-=ab >w-=ab: cheapest()", x.cheapest(), 3);
        Check.due("weigh(10, 2)", x.weigh(10, 2), 1);
        Check.due("<d=a+b <d-=ab >w-=ab: cheapest()", x.cheapest(), 1);
    }

    private static void ranges() {
        int[] numbers = {Integer.MIN_VALUE, -2, -1, 0, 1, 2, 3, 4, 8, 9, Integer.MAX_VALUE};
        for (int i : numbers) {
            for (int j : numbers) {
                ClueParts x = new ClueParts();
                for (int a : numbers) {
                    for (int b : numbers) {
                        boolean good = i >= 0 && i < j && j <= 3 && a >= 0 && a < b && b <= 3;
                        String name = "(" + i + ", " + j + ", " + a + ", " + b + ")";
                        Check.due("pieces is BAD " + name, x.pieces(i, j, a, b) == ClueParts.BAD ? 1 : 0, good ? 0 : 1);
                        Check.due("pieceCost is BAD " + name, x.pieceCost(i, j, a, b) == ClueParts.BAD ? 1 : 0,
                                good ? 0 : 1);
                        Check.due("units is BAD " + name, x.units(i, j, a, b) == ClueParts.BAD ? 1 : 0, good ? 0 : 1);
                    }
                }
            }
        }
    }

    /** Every call that changes something is seen by the next count, also between questions about other books. */
    private static void stateFollowsCalls() {
        ClueParts x = new ClueParts();
        Check.due("parses()", x.parses(), 1);
        Check.due("without(0)", x.without(0), 0);
        Check.due("parses() after without(0)", x.parses(), 1);
        Check.due("pieces() after without(0)", x.pieces(0, 2, 0, 3), 1);
        Check.due("forget(5)", x.forget(5), 13);
        Check.due("parses() after forget(5)", x.parses(), 0);
        Check.due("pieces() after forget(5)", x.pieces(0, 2, 0, 3), 0);
        Check.learn(x, "back/A;pest/R;", 2);
        Check.due("parses() after learn()", x.parses(), 0);
        Check.learn(x, "back=rat;", 1);
        Check.due("parses() after learn()", x.parses(), 1);
        Check.answer(x, "kcab", 4);
        Check.due("parses() of another answer", x.parses(), 0);
        Check.due("pieces() of another answer", x.pieces(0, 2, 0, 4), 1);
        Check.due("pieceCost() of another answer", x.pieceCost(0, 2, 0, 4), 4);
        Check.due("weigh(1, 0)", x.weigh(1, 0), 3);
        Check.due("pieceCost() of another weight", x.pieceCost(0, 2, 0, 4), 1);
        Check.clue(x, "pest kcab", 2);
        Check.due("pieces() of another clue", x.pieces(0, 2, 0, 4), 0);
        Check.due("pieces() of another clue", x.pieces(1, 2, 0, 4), 1);
    }
}
