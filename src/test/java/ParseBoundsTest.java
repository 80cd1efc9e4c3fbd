/**
 * The boundary cases of parses, of the order that decides which one is the best, and of its line: promises 15 parses,
 * 16 cost, 17 first, 21 cheapest.
 */
public final class ParseBoundsTest extends Bounds {
    public static void main(String[] args) {
        definition();
        otherWords();
        link();
        costs();
        cheapest();
        firstArguments();
        orderOfParses();
        orderOfPieces();
        orderOfSorts();
        orderInReversalsAndAnagrams();
        orderInContainers();
        orderInInsertions();
        orderInShortened();
        lines();
        lineEnds();
        Check.end();
    }

    private static void parses(String sentence, String book, String clue, String answer, int due) {
        run("15: " + sentence + " (" + clue + ", " + answer + ")", made(book, clue, answer) + "parses() = " + due);
    }

    private static String best(String line, int cost, int cheapest) {
        return "line = \"" + line + "\"; cost() = " + cost + "; cheapest() = " + cheapest + "; ";
    }

    private static void definition() {
        parses("the definition is the first word", "d=ab;p=a;q=b;", "d p q", "ab", 1);
        parses("the definition is the last word", "d=ab;p=a;q=b;", "p q d", "ab", 1);
        parses("the definition is not a word in the middle", "d=ab;p=a;q=b;", "p d q", "ab", 0);
        parses("the first and the last word both define", "d=ab;", "d d", "ab", 2);
        parses("it must have an entry, not the letters themselves", "p=a;q=b;", "ab p q", "ab", 0);
        parses("it must have an entry, not an indicator", "d/L;w=ab;", "d w x", "ab", 0);
        parses("it may stand for the answer, not for more", "d=abc;w=ab;", "d w", "ab", 0);
        parses("it may stand for the answer, not for less", "d=a;d=b;w=ab;", "d w", "ab", 0);
        parses("it may stand for the answer: 2 letters", "d=ab;", "d ab", "ab", 1);
        parses("it may stand for the answer: 8 letters", "d=abcdefgh;w=abcdefgh;", "d w", "abcdefgh", 2);
        run("15: no parse without an entry in the book", "book \"\"; parses() = 0; cost() = NONE; cheapest() = 0; line = NONE");
    }

    private static void otherWords() {
        parses("the piece consists of all other words", "d=ab;w=ab;", "d w x", "ab", 0);
        parses("the piece consists of all other words, not of the definition", "d=ab;d=a;w=b;", "d w", "ab", 0);
        parses("the piece spells the answer, not a part of it", "d=abc;w=ab;", "d w", "abc", 0);
        parses("the piece spells the answer, not more", "d=ab;w=abc;", "d w", "ab", 0);
        parses("one other word", "d=ab;w=ab;", "d w", "ab", 2);
        parses("five other words", "d=abcef;", "d a b c e f", "abcef", 1);
        parses("five other words", "d=abcef;", "a b c e f d", "abcef", 1);
    }

    private static void link() {
        parses("the word next to the definition, which is first", "d=ab;w=ab;l/L;", "d l w x", "ab", 0);
        parses("the word next to the definition, which is first", "d=ab;l/L;", "d l ab", "ab", 1);
        parses("the word next to the definition, which is last", "d=ab;l/L;", "ab l d", "ab", 1);
        parses("the word next to the definition, not the other end", "d=ab;l/L;", "d ab l", "ab", 0);
        parses("the word next to the definition, not the other end", "d=ab;l/L;", "l ab d", "ab", 0);
        parses("the word next to the definition, not one in the piece", "d=ab;l/L;", "d a l b", "ab", 0);
        parses("the one next to the definition, not two", "d=ab;l/L;", "d l l ab", "ab", 0);
        parses("the one next to the definition, not one at each side", "d=ab;l/L;", "d l ab l", "ab", 0);
        parses("it must be an indicator L", "d=ab;l/I;l/R;l=ab;", "d l ba", "ab", 1);
        parses("it must be an indicator L, not a word that is none", "d=ab;", "d l ab", "ab", 0);
        parses("without any other word there is no piece", "d=ab;l/L;", "d l", "ab", 0);
        parses("without any other word there is no piece", "d=ab;l/L;", "l d", "ab", 0);
        parses("without any other word there is no piece", "d=ab;d/L;", "d d", "ab", 2);
        parses("next to both definitions", "d=ab;l/L;", "d l d", "ab", 2);
        parses("four words behind the link", "d=abce;l/L;", "d l a b c e", "abce", 1);
        parses("four words before the link", "d=abce;l/L;", "a b c e l d", "abce", 1);
        parses("the indicator L may be in the piece too", "d=ab;l/L;l=a;", "d l b", "ab", 1);
        run("16: plus the weight of L, 0 to 9", made("d=ab;l/L;", "d l ab", "ab") + "cost() = 3; weigh(10, 9) = 0; cost() = 12;"
                + "weigh(10, 1) = 9; cost() = 4; weigh(10, 0) = 1; cost() = 3");
        run("16: the weight of L only if there is such an indicator", made("d=ab;l/L;l=a;", "d l b", "ab")
                + "cost() = 4; weigh(10, 9) = 0; cost() = 4");
    }

    private static void costs() {
        run("16: NONE if there is no parse", made("d=ab;", "d w", "ab") + "parses() = 0; cost() = NONE; cheapest() = 0");
        run("16: a parse that costs nothing is not NONE", made("d=ab;w=ab;", "d w x", "ab") + "cost() = NONE;"
                + "clue \"d w\" = 2; weigh(0, 0) = 1; cost() = 0; parses() = 2");
        run("16: the greatest weights", made("d=abce;l/L;", "d l a b c e", "abce") + "weigh(1, 9) = 3; weigh(10, 9) = 0;"
                + "cost() = 45; cheapest() = 1");
        run("16: the lowest cost of all parses", made("d=ab;e=ab;", "d ab", "ab") + "cost() = 3; clue \"d e\" = 2; cost() = 1");
        run("16: the definition costs nothing", made("d=ab;", "d ab", "ab") + "weigh(0, 9) = 1; cost() = 3");
    }

    private static void cheapest() {
        run("21: 0 if there is no parse", made("d=ab;", "d w", "ab") + "cheapest() = 0; parses() = 0");
        run("21: one, some or all of them", made("ab=ab;", "ab ab", "ab") + "parses() = 4; cheapest() = 2; weigh(1, 1) = 3;"
                + "cheapest() = 4; parses() = 4; weigh(1, 0) = 1; cheapest() = 2; forget(0) = 0; cheapest() = 0");
        run("21: of all definitions, with L and without", made("d=ab;l/L;l=a;w=b;w=ab;", "d l w", "ab") + "parses() = 3;"
                + "cheapest() = 2; weigh(10, 1) = 0; cheapest() = 3; weigh(10, 2) = 1; cheapest() = 1");
        run("21: of the pieces in a unit", made("d=aaaa;o=aaa;o=aa;i=a;i=aa;h/C;", "d o h i", "aaaa") + "cheapest() = 3;"
                + "parses() = 3");
    }

    private static void firstArguments() {
        run("17: BAD if i is less than -1", "first(-2) = BAD; first(LEAST) = BAD; first(-1) = 14; first(0) = '>'");
        run("17: NONE if the line has not so many characters", """
                first(13) = ')'; first(14) = NONE; first(15) = NONE; first(200) = NONE; first(MOST) = NONE""");
        run("17: NONE if there is no parse", made("d=ab;", "d w", "ab") + """
                first(-1) = NONE; first(0) = NONE; first(1) = NONE; first(MOST) = NONE""");
        run("17: NONE is returned only if no error code applies", made("d=ab;", "d w", "ab") + """
                first(-2) = BAD; first(LEAST) = BAD; first(-1) = NONE""");
        run("17: a character of a longer line before is not there", made("d=abc;", "d abc", "abc") + """
                line = "<d='abc"; answer "ab" = 2; line = NONE; learn "d=ab;abc=ab;" = 2; line = "<d=ab"
                first(5) = NONE; first(6) = NONE""");
    }

    private static void orderOfParses() {
        run("the lowest cost, before the definition", made("ab=ab;d=ab;", "ab d", "ab") + "weigh(0, 5) = 1;"
                + best(">d='ab", 3, 1) + "weigh(0, 3) = 5; " + best("<ab=ab", 3, 3));
        run("the definition is the first word", made("d=ab;e=ab;", "d e", "ab") + best("<d=ab", 1, 2));
        run("the definition is the first word, before the one without L", made("d=ab;l/L;w=ab;l=b;d=a;", "d l w", "ab")
                + "weigh(10, 1) = 0; " + best("<d-=ab", 2, 3));
        run("the one without L", made("d=ab;l/L;l=a;w=b;w=ab;", "d l w", "ab") + "weigh(10, 1) = 0; " + best("<d=a+b", 2, 3));
        run("the one without L, with the definition last", made("d=ab;l/L;l=b;ab=a;", "ab l d", "ab") + "weigh(1, 2) = 3; "
                + best(">d=a+b", 2, 2));
    }

    private static void orderOfPieces() {
        run("fewer words, before fewer letters", made("d=abcd;x=abc;x/B;y/I;y=zab;dz=cd;", "d x y dz", "abcd")
                + "weigh(9, 3) = 2; " + best("<d=abc+I(dz)", 4, 2));
        run("fewer letters, before the lower sort", made("d=abb;a=ab;q=b;q=bb;", "d a q", "abb") + "weigh(1, 1) = 3;"
                + best("<d='a+bb", 2, 2));
        run("if the first units are equal, by the next ones", made("d=abcd;p=a;q=bc;q=b;s=d;s=cd;", "d p q s", "abcd")
                + best("<d=a+b+cd", 3, 2));
        run("by the first units, before the next ones", made("d=abcd;p=ab;p=a;q=c;q=bc;q=b;s=d;s=cd;", "d p q s", "abcd")
                + best("<d=a+b+cd", 3, 3));
    }

    private static void sort(String sorts, String script, String line, int cost) {
        run("the lower number of its sort: " + sorts, script + "line = \"" + line + "\"; cost() = " + cost + "; cheapest() = 2");
    }

    private static void orderOfSorts() {
        sort("given, itself", made("d=cab;ab=ab;", "d c ab", "cab") + "weigh(1, 1) = 3; ", "<d='c+ab", 2);
        sort("R, A", made("d=ab;x/R;x/A;", "d x ba", "ab") + "weigh(3, 4) = 2; ", "<d=R('ba)", 4);
        sort("R, C", made("d=sat;x/R;x=st;h/C;h=ta;y=a;y=s;", "d x h y", "sat"), "<d=R(ta+s)", 3);
        sort("R, I", made("d=ab;x/R;x/I;ap=b;bq=a;", "d x ap bq", "ab") + "weigh(9, 3) = 2; ", "<d=R(b+a)", 3);
        sort("A, C", made("d=sat;x/A;x=st;s/C;ta=a;", "d x s ta", "sat") + "weigh(3, 3) = 2; ", "<d=A(sta)", 3);
        sort("C, N", made("d=abcde;h/N;h/C;o=b;o=abce;i=acde;i=d;", "d o h i", "abcde"), "<d=C(abce)(d)", 3);
        sort("N, H", made("d=abb;s/H;cab/N;s=b;bed=ab;", "d s cab bed", "abb") + "weigh(6, 3) = 2; ", "<d=N(b)(ab)", 3);
        sort("H, I", made("d=ab;s/I;s/H;", "d s aba bc", "ab"), "<d=H(ababc)", 2);
        sort("B, T", made("d=aa;k/T;k/B;w=aaa;", "d k w", "aa"), "<d=B(aaa)", 3);
        sort("T, I", made("d=ca;k/I;k/T;", "d c k ab", "ca") + "weigh(9, 5) = 2; ", "<d='c+T('ab)", 8);
    }

    private static void orderInReversalsAndAnagrams() {
        run("R: the indicator is its first word, before the piece", made("d=ab;y/R;ba/R;y=ba;", "d y ba", "ab")
                + "weigh(1, 1) = 3; " + best("<d=R('ba)", 2, 2));
        run("A: the indicator is its first word", made("d=cab;abc/A;bca/A;", "d abc bca", "cab") + best("<d=A(bca)", 2, 2));
        run("R: by the piece in it", made("d=baba;r/R;p=ab;p=a;q=ab;q=bab;", "d r p q", "baba") + best("<d=R(a+bab)", 3, 2));
        run("R: by the piece in it, with the indicator last", made("d=baba;r/R;p=ab;p=a;q=ab;q=bab;", "d p q r", "baba")
                + best("<d=R(a+bab)", 3, 2));
    }

    private static void orderInContainers() {
        run("C: fewer words before the indicator, before the place", made("d=abcdef;h/C;o=a;o=abcf;h=cdef;h=d;i=b;i=e;",
                "d o h h i", "abcdef") + best("<d=C(abcf)(d+e)", 4, 2));
        run("C: inner letters that begin earlier, before fewer", made("d=abab;o=abb;o=ab;i=a;i=ba;h/C;", "d o h i", "abab")
                + best("<d=C(ab)(ba)", 3, 2));
        run("C: fewer inner letters, before the piece", made("d=aaaa;o=aa;o=aaa;i=aa;i=a;h/C;", "d o h i", "aaaa")
                + best("<d=C(aaa)(a)", 3, 3));
        run("C: by the piece before the indicator", made("d=axybab;o=aba;o=ab;p=b;p=ab;h/C;i=x;k=y;", "d o p h i k", "axybab")
                + best("<d=C(ab+ab)(x+y)", 5, 2));
        run("C: by the piece after it", made("d=abxxyyab;o=abab;h/C;i=xx;i=x;k=yy;k=xyy;", "d o h i k", "abxxyyab")
                + best("<d=C(abab)(x+xyy)", 4, 2));
    }

    private static void orderInInsertions() {
        run("N: fewer words before the indicator, before the place", made("d=abcdef;h/N;o=b;o=d;h=c;h=abc;i=adef;i=ef;",
                "d o h h i", "abcdef") + best("<d=N(d)(abc+ef)", 4, 2));
        run("N: inner letters that begin earlier, before fewer", made("d=abab;o=abb;o=ab;i=a;i=ba;h/N;", "d i h o", "abab")
                + best("<d=N(ba)(ab)", 3, 2));
        run("N: fewer inner letters, before the piece", made("d=xabcdy;p=a;p=ab;q=bcd;q=c;h/N;o=xy;o=xdy;", "d p q h o",
                "xabcdy") + best("<d=N(ab+c)(xdy)", 4, 2));
        run("N: by the piece before the indicator", made("d=abxxyyab;o=abab;h/N;i=xx;i=x;k=yy;k=xyy;", "d i k h o", "abxxyyab")
                + best("<d=N(x+xyy)(abab)", 4, 2));
        run("N: by the piece after it", made("d=abaxb;i=x;h/N;o=aba;o=ab;p=b;p=ab;", "d i h o p", "abaxb")
                + best("<d=N(x)(ab+ab)", 4, 2));
    }

    private static void orderInShortened() {
        run("B: the one that uses the word itself", made("d=ab;k/B;zab=yab;zab=xab;", "d k zab", "ab") + best("<d=B(yab)", 3, 2)
                + "weigh(1, 1) = 3; " + best("<d=B('zab)", 3, 3));
        run("B: the one with the lower entry", made("d=ab;k/B;w=yab;w=xab;w=zab;", "d k w", "ab") + best("<d=B(yab)", 3, 3)
                + "forget(2) = 4; " + best("<d=B(xab)", 3, 2));
        run("T: the one that uses the word itself", made("d=ab;k/T;abz=aby;abz=abx;", "d k abz", "ab") + best("<d=T(aby)", 3, 2)
                + "weigh(1, 1) = 3; " + best("<d=T('abz)", 3, 3));
        run("T: the one with the lower entry", made("d=ab;k/T;w=aby;w=abx;w=abz;", "d k w", "ab") + best("<d=T(aby)", 3, 3)
                + "forget(2) = 4; " + best("<d=T(abx)", 3, 2));
        run("B: the entries 22 and 23", made("a=a;a=b;a=c;a=d;a=e;a=f;a=g;a=h;a=i;a=j;a=k;a=l;a=m;a=n;a=o;a=p;a=q;a=r;a=s;"
                + "a=t;d=ab;k/B;w=zab;w=yab;", "d k w", "ab") + best("<d=B(zab)", 3, 2) + "forget(22) = 23; "
                + best("<d=B(yab)", 3, 1));
    }

    private static void line(String sentence, String book, String clue, String answer, String line) {
        run("17: " + sentence, made(book, clue, answer) + "line = \"" + line + "\"");
    }

    private static void lines() {
        line("< if the definition is the first word", "d=ab;", "d ab", "ab", "<d='ab");
        line("> if it is the last one", "d=ab;", "ab d", "ab", ">d='ab");
        line("- if there is an indicator L", "d=ab;l/L;", "d l ab", "ab", "<d-='ab");
        line("- if there is an indicator L, before the last word", "d=ab;l/L;", "ab l d", "ab", ">d-='ab");
        line("no - if the indicator L is in the piece", "d=ab;l/L;l=a;", "d l b", "ab", "<d=a+'b");
        line("given, the letters", "d=ab;w=ab;", "d w", "ab", "<d=ab");
        line("itself, an apostrophe and the letters", "d=ab;", "d ab", "ab", "<d='ab");
        line("units with + between them", "d=abcef;", "d a b c e f", "abcef", "<d='a+'b+'c+'e+'f");
        line("R, the piece", "d=abc;r/R;p=cb;", "d r p a", "abc", "<d=R(cb+'a)");
        line("R, the piece, the indicator last", "d=abc;r/R;p=cb;", "d p a r", "abc", "<d=R(cb+'a)");
        line("A, the other words without blanks", "d=abc;x/A;", "d x c ba", "abc", "<d=A(cba)");
        line("A, the other words without blanks, the indicator last", "d=abc;x/A;", "d c ba x", "abc", "<d=A(cba)");
        line("C, the outer piece and the inner piece", "d=sabt;h/C;o=st;", "d o h a b", "sabt", "<d=C(st)('a+'b)");
        line("N, the inner piece and the outer piece", "d=sabt;h/N;o=st;", "d a b h o", "sabt", "<d=N('a+'b)(st)");
        line("H, the other words without blanks", "d=abbe;s/H;", "d s cab bed", "abbe", "<d=H(cabbed)");
        line("B, the letters of the entry", "d=ab;k/B;w=zab;", "d k w", "ab", "<d=B(zab)");
        line("B, an apostrophe and the word", "d=ab;k/B;", "d k zab", "ab", "<d=B('zab)");
        line("B, the letters of the entry 0", "w=zab;k/B;d=ab;", "d k w", "ab", "<d=B(zab)");
        line("B, no word behind it", "d=abc;k/B;", "d k zab c", "abc", "<d=B('zab)+'c");
        line("T, the letters of the entry", "d=ab;k/T;w=abz;", "d k w", "ab", "<d=T(abz)");
        line("T, an apostrophe and the word", "d=ab;k/T;", "d k abz", "ab", "<d=T('abz)");
        line("T, the letters of the entry 0", "w=abz;k/T;d=ab;", "d k w", "ab", "<d=T(abz)");
        line("T, no word behind it", "d=abc;k/T;", "d k abz c", "abc", "<d=T('abz)+'c");
        line("I, the other words without blanks", "d=ab;f/I;", "d f art bee", "ab", "<d=I(artbee)");
        line("a unit in a unit in a unit", "d=sadt;r/R;h/C;o=ts;k/B;w=xda;", "d r o h k w", "sadt", "<d=R(C(ts)(B(xda)))");
    }

    private static void lineEnds() {
        line("the shortest line", "d=ab;w=ab;", "d w", "ab", "<d=ab");
        line("the longest definition", "defined=ab;", "defined ab", "ab", "<defined='ab");
        line("the longest line", "defined=abcd;initial/I;", "initial aaaaaaa bbbbbbb ccccccc ddddddd defined", "abcd",
                ">defined=I(aaaaaaabbbbbbbcccccccddddddd)");
        line("the longest letters of an entry", "d=abcdefg;k/T;w=abcdefgh;", "d k w", "abcdefg", "<d=T(abcdefgh)");
        line("8 letters", "d=abcdefgh;w=abcdefgh;", "d w", "abcdefgh", "<d=abcdefgh");
    }
}
