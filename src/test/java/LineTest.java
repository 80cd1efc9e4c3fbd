/** The line of the best parse and the order that chooses it: promise 17 first. */
public final class LineTest {
    public static void main(String[] args) {
        definitions();
        sorts();
        unitOrder();
        containerOrder();
        nested();
        longest();
        edges();
        Check.end();
    }

    /** The line, its cost, and how many parses have this cost. */
    private static ClueParts best(String book, String clue, String answer, String line, int cost, int cheapest) {
        ClueParts x = Check.made(book, clue, answer);
        best(x, line, cost, cheapest);
        return x;
    }

    private static void best(ClueParts x, String line, int cost, int cheapest) {
        Check.due("line due as " + line, Check.line(x), line);
        Check.due("cost() of " + line, x.cost(), cost);
        Check.due("cheapest() of " + line, x.cheapest(), cheapest);
    }

    private static void definitions() {
        best("ab=ab;", "ab ab", "ab", "<ab=ab", 1, 2);
        best("d=ab;e=ab;", "d e", "ab", "<d=ab", 1, 2);
        best("e=ab;", "ab e", "ab", ">e='ab", 3, 1);
        best("d=ab;for/L;w=ab;", "d for w", "ab", "<d-=ab", 1, 2);
        best("d=ab;for/L;w=ab;", "ab for d", "ab", ">d-='ab", 3, 1);
        ClueParts x = best("d=ab;l/L;l=a;w=b;w=ab;", "d l w", "ab", "<d-=ab", 1, 2);
        x.weigh(0, 0);
        best(x, "<d=a+b", 0, 3);
        // A link with the definition first comes before no link with the definition last.
        x = best("d=ab;l/L;w=ab;l=b;d=a;", "d l w", "ab", "<d-=ab", 1, 2);
        x.weigh(10, 1);
        best(x, "<d-=ab", 2, 3);
        x.weigh(10, 2);
        best(x, ">w=a+b", 2, 1);
    }

    private static void sorts() {
        best("d=ab;s/H;", "d s cab bed", "ab", "", ClueParts.NONE, 0);
        best("d=abbe;s/H;", "d s cab bed", "abbe", "<d=H(cabbed)", 2, 1);
        best("d=aaa;s/H;", "d s aaa aaa", "aaa", "<d=H(aaaaaa)", 2, 2);
        best("d=ab;f/I;", "d f art bee", "ab", "<d=I(artbee)", 2, 1);
        best("d=ba;x/A;", "d x a b", "ba", "<d=A(ab)", 2, 1);
        best("d=ba;x/A;", "d a b x", "ba", "<d=A(ab)", 2, 1);
        best("d=ab;k/B;", "d k zab", "ab", "<d=B('zab)", 5, 1);
        best("d=ab;k/B;w=zab;", "d k w", "ab", "<d=B(zab)", 3, 1);
        best("d=ab;k/T;", "d k abz", "ab", "<d=T('abz)", 5, 1);
        best("d=ab;k/T;w=abz;", "d k w", "ab", "<d=T(abz)", 3, 1);
        best("d=sat;h/C;o=st;i=a;", "d o h i", "sat", "<d=C(st)(a)", 3, 1);
        best("d=sat;h/N;o=st;i=a;", "d i h o", "sat", "<d=N(a)(st)", 3, 1);
        best("d=pot;b/R;", "b to p d", "pot", ">d=R('to+'p)", 7, 1);
    }

    private static void unitOrder() {
        // Fewer words in the first unit.
        best("d=abcd;x=ab;x/R;y=dc;y=ba;z/R;z=cd;", "d x y z", "abcd", "<d=ab+R(dc)", 3, 2);
        // Fewer letters in the first unit.
        best("d=abab;p=ab;p=a;q=ab;q=bab;", "d p q", "abab", "<d=a+bab", 2, 2);
        // The lower sort.
        ClueParts x = Check.made("d=ab;ab=ab;", "d ab", "ab");
        x.weigh(1, 1);
        best(x, "<d=ab", 1, 3);
        x.weigh(1, 0);
        best(x, "<d='ab", 0, 1);
        x = Check.made("d=ab;x/R;x/A;", "d x ba", "ab");
        best(x, "<d=A(ba)", 2, 1);
        x.weigh(3, 4);
        best(x, "<d=R('ba)", 4, 2);
        x = Check.made("d=aa;k/B;k/T;w=aaa;", "d k w", "aa");
        best(x, "<d=B(aaa)", 3, 2);
        x.weigh(7, 3);
        best(x, "<d=T(aaa)", 3, 1);
        // The indicator first.
        best("d=cab;abc/A;bca/A;", "d abc bca", "cab", "<d=A(bca)", 2, 2);
        x = Check.made("d=ab;ba/R;y/R;y=ba;", "d ba y", "ab");
        best(x, "<d=R(ba)", 2, 1);
        x.weigh(1, 1);
        best(x, "<d=R(ba)", 2, 2);
        x.weigh(1, 0);
        best(x, "<d=R('ba)", 1, 1);
        // The word itself, then the lower entry.
        x = Check.made("d=ab;k/B;zab=yab;zab=xab;", "d k zab", "ab");
        best(x, "<d=B(yab)", 3, 2);
        x.weigh(1, 1);
        best(x, "<d=B('zab)", 3, 3);
        x.weigh(1, 2);
        Check.due("forget(2)", x.forget(2), 3);
        best(x, "<d=B(xab)", 3, 1);
        x = Check.made("d=ab;k/T;abz=aby;abz=abx;", "d k abz", "ab");
        best(x, "<d=T(aby)", 3, 2);
        x.weigh(1, 1);
        best(x, "<d=T('abz)", 3, 3);
        // For R, by the piece in it.
        best("d=baba;r/R;p=ab;p=a;q=ab;q=bab;", "d r p q", "baba", "<d=R(a+bab)", 3, 2);
    }

    private static void containerOrder() {
        // Inner letters that begin earlier.
        best("d=abab;o=abb;o=ab;i=a;i=ba;h/C;", "d o h i", "abab", "<d=C(ab)(ba)", 3, 2);
        best("d=abab;o=abb;o=ab;i=a;i=ba;h/N;", "d i h o", "abab", "<d=N(ba)(ab)", 3, 2);
        // Fewer inner letters.
        best("d=aaaa;o=aa;o=aaa;i=aa;i=a;h/C;", "d o h i", "aaaa", "<d=C(aaa)(a)", 3, 3);
        best("d=aaaa;o=aa;o=aaa;i=aa;i=a;h/N;", "d i h o", "aaaa", "<d=N(a)(aaa)", 3, 3);
        // C before N.
        ClueParts x = Check.made("d=abab;o=ab;o=ba;i=ab;i=ba;h/C;h/N;", "d o h i", "abab");
        best(x, "<d=C(ab)(ba)", 3, 2);
        x.weigh(4, 2);
        best(x, "<d=N(ba)(ab)", 3, 1);
        // Fewer words before the indicator: the first or the second h.
        best("d=saat;o=s;o=st;h/C;h=a;h=t;i=a;i=aa;", "d o h h i", "saat", "<d=C(st)(a+a)", 4, 2);
        // The piece before the indicator, then the one after it.
        best("d=axybab;o=aba;o=ab;p=b;p=ab;h/C;i=x;k=y;", "d o p h i k", "axybab", "<d=C(ab+ab)(x+y)", 5, 2);
        best("d=abxyab;o=ab;o=a;p=ab;p=bab;h/C;i=x;k=y;", "d o p h i k", "abxyab", "<d=a+C(bab)(x+y)", 5, 3);
        best("d=abxxyyab;o=abab;h/C;i=xx;i=x;k=yy;k=xyy;", "d o h i k", "abxxyyab", "<d=C(abab)(x+xyy)", 4, 2);
        best("d=abxxyyab;o=abab;h/N;i=xx;i=x;k=yy;k=xyy;", "d i k h o", "abxxyyab", "<d=N(x+xyy)(abab)", 4, 2);
    }

    private static void nested() {
        best("d=sadt;r/R;h/C;o=st;i=da;", "d o h i r", "sadt", "<d=C(st)(R(da))", 4, 1);
        best("d=sadt;r/R;h/C;o=ts;i=da;", "d r o h i", "sadt", "<d=R(C(ts)(da))", 4, 1);
        best("d=sadt;r/R;h/C;o=ts;i=ad;", "o r h i d", "sadt", ">d=C(R(ts))(ad)", 4, 1);
        best("d=stuw;h/C;o=sw;i=t;k=u;", "d o h i h k", "stuw", "<d=C(C(sw)(t))(u)", 5, 1);
        best("d=xstary;l/L;x=x;r/R;p=rats;", "d x r p y", "xstary", "<d=x+R(rats)+'y", 6, 1);
        best("d=xa;x=x;k/B;b=ba;", "x k b d", "xa", ">d=x+B(ba)", 4, 1);
    }

    /** Long words everywhere: the line has room for them. */
    private static void longest() {
        best("defined=abcdefgh;opened/A;", "defined a bcde opened fgh", "abcdefgh", "", ClueParts.NONE, 0);
        best("defined=dabecfgh;link/L;opened/A;", "defined link opened abcde fgh", "dabecfgh",
                "<defined-=A(abcdefgh)", 2, 1);
        best("defined=abcde;initial/I;", "defined initial awwwwww bwwwwww cwwwwww dwwwwww", "abcd", "",
                ClueParts.NONE, 0);
        best("defined=abcd;initial/I;", "initial awwwwww bwwwwww cwwwwww dwwwwww defined", "abcd",
                ">defined=I(awwwwwwbwwwwwwcwwwwwwdwwwwww)", 2, 1);
        best("defined=wwwwwwww;hiddenn/H;", "hiddenn wwwwwww ww wwwwwww defined", "wwwwwwww",
                ">defined=H(wwwwwwwwwwwwwwww)", 2, 5);
    }

    private static void edges() {
        ClueParts x = new ClueParts();
        String line = ">sailor=R(rat)";
        Check.due("first(-1)", x.first(-1), line.length());
        for (int i = 0; i < line.length(); i++) {
            Check.due("first(" + i + ")", x.first(i), line.charAt(i));
        }
        Check.due("first(14)", x.first(14), ClueParts.NONE);
        Check.due("first(199)", x.first(199), ClueParts.NONE);
        Check.due("first(200)", x.first(200), ClueParts.NONE);
        Check.due("first(greatest)", x.first(Integer.MAX_VALUE), ClueParts.NONE);
        Check.due("first(-2)", x.first(-2), ClueParts.BAD);
        Check.due("first(least)", x.first(Integer.MIN_VALUE), ClueParts.BAD);
        Check.due("ifOffer(1, 0)", x.ifOffer(1, 0), 1);
        Check.due("without(0)", x.without(0), 0);
        Check.due("line after questions", Check.line(x), line);
        Check.due("take(1)", x.take(1), 3);
        Check.due("line of another answer", Check.line(x), "<pest=R(tar)");
        Check.due("forget(0)", x.forget(0), 13);
        Check.due("first(-1) without a parse", x.first(-1), ClueParts.NONE);
        Check.due("first(0) without a parse", x.first(0), ClueParts.NONE);
        Check.due("first(-2) without a parse", x.first(-2), ClueParts.BAD);
    }
}
