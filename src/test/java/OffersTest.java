/** Offers and needs: promises 22 offer, 23 ifOffer, 24 take, 25 without, and count(3) and count(5) of 26. */
public final class OffersTest {
    public static void main(String[] args) {
        offersAtFirst();
        whichOffers();
        wrongArguments();
        taking();
        needs();
        Check.end();
    }

    private static void offers(ClueParts x, int... entries) {
        Check.due("offer(-1)", x.offer(-1), entries.length);
        Check.due("count(3)", x.count(3), entries.length);
        for (int i = 0; i < entries.length; i++) {
            Check.due("offer(" + i + ")", x.offer(i), entries[i]);
        }
        Check.due("offer(too many)", x.offer(entries.length), ClueParts.NONE);
        Check.due("offer(greatest)", x.offer(Integer.MAX_VALUE), ClueParts.NONE);
        Check.due("offer(-2)", x.offer(-2), ClueParts.BAD);
        Check.due("offer(least)", x.offer(Integer.MIN_VALUE), ClueParts.BAD);
    }

    private static void offersAtFirst() {
        ClueParts x = new ClueParts();
        offers(x, 0, 1);
        Check.due("ifOffer(0, 0)", x.ifOffer(0, 0), 1);
        Check.due("ifOffer(0, 1)", x.ifOffer(0, 1), 2);
        Check.due("ifOffer(1, 0)", x.ifOffer(1, 0), 1);
        Check.due("ifOffer(1, 1)", x.ifOffer(1, 1), 2);
        Check.clue(x, "x y", 2);
        offers(x);
        Check.due("ifOffer(0, 0) of no offers", x.ifOffer(0, 0), ClueParts.BAD);
        Check.due("take(0) of no offers", x.take(0), ClueParts.BAD);
    }

    private static void whichOffers() {
        // One letter is no offer, nor are the middle word's letters or an indicator; equal letters are one offer.
        ClueParts x = Check.made("a=x;m=xy;b=xy;a/R;a=xy;a=yz;b=yz;b/L;b=zz;a=abcdefgh;", "a m b", "qq");
        offers(x, 2, 5, 8, 9);
        Check.due("forget(2)", x.forget(2), 9);
        offers(x, 3, 4, 7, 8);
        Check.clue(x, "a m", 2);
        offers(x, 1, 4, 8);
        Check.clue(x, "b b", 2);
        offers(x, 5, 7);
        Check.clue(x, "m m m", 3);
        offers(x, 1);
        offers(Check.made("b=xy;a=xy;a=xyz;", "a b", "qq"), 0, 2);
    }

    private static void wrongArguments() {
        ClueParts x = new ClueParts();
        int[] noOffer = {-2, -1, 2, 24, Integer.MIN_VALUE, Integer.MAX_VALUE};
        for (int i : noOffer) {
            Check.due("ifOffer(" + i + ", 0)", x.ifOffer(i, 0), ClueParts.BAD);
            Check.due("ifOffer(" + i + ", 1)", x.ifOffer(i, 1), ClueParts.BAD);
            Check.due("take(" + i + ")", x.take(i), ClueParts.BAD);
        }
        int[] noWhat = {-1, 2, Integer.MIN_VALUE, Integer.MAX_VALUE};
        for (int what : noWhat) {
            Check.due("ifOffer(0, " + what + ")", x.ifOffer(0, what), ClueParts.BAD);
        }
    }

    private static void taking() {
        ClueParts x = Check.made("d=sat;d=tsa;d=xyzw;o=st;i=a;h/C;r/R;", "d o h i r", "qq");
        offers(x, 0, 1, 2);
        Check.due("parses()", x.parses(), 0);
        Check.due("ifOffer(0, 0)", x.ifOffer(0, 0), 0);
        Check.due("ifOffer(0, 1)", x.ifOffer(0, 1), ClueParts.NONE);
        Check.clue(x, "d o h i", 4);
        Check.due("ifOffer(0, 0)", x.ifOffer(0, 0), 1);
        Check.due("ifOffer(0, 1)", x.ifOffer(0, 1), 3);
        Check.due("parses() after ifOffer", x.parses(), 0);
        Check.due("ifOffer(1, 1)", x.ifOffer(1, 1), ClueParts.NONE);
        Check.due("parses() after ifOffer", x.parses(), 0);
        Check.due("answerLetter(0) after ifOffer", x.answerLetter(0), 'q');
        Check.due("count(2) after ifOffer", x.count(2), 2);
        Check.due("take(2)", x.take(2), 4);
        Check.due("answerLetter(3)", x.answerLetter(3), 'w');
        Check.due("take(2) again", x.take(2), ClueParts.NO);
        Check.due("pieces(0, 1, 0, 4)", x.pieces(0, 1, 0, 4), 1);
        Check.due("take(0)", x.take(0), 3);
        Check.due("answerLetter(3)", x.answerLetter(3), ClueParts.NONE);
        Check.due("parses() after take(0)", x.parses(), 1);
        Check.due("line after take(0)", Check.line(x), "<d=C(st)(a)");
        Check.due("take(0) again", x.take(0), ClueParts.NO);
        Check.due("forget(0)", x.forget(0), 6);
        Check.due("answerLetter(0) after its entry is gone", x.answerLetter(0), 's');
        Check.due("parses() after its entry is gone", x.parses(), 0);
    }

    private static void needs() {
        ClueParts x = new ClueParts();
        for (int e = 0; e < 14; e++) {
            Check.due("without(" + e + ")", x.without(e), e == 0 || e == 1 || e == 5 ? 0 : 1);
        }
        Check.due("count(5)", x.count(5), 3);
        Check.due("without(14)", x.without(14), ClueParts.BAD);
        Check.due("without(-1)", x.without(-1), ClueParts.BAD);
        Check.due("count(0) after without", x.count(0), 14);
        // d defines at both ends, the entry of w may be replaced by w itself, and B has two ways.
        x = Check.made("d=ab;ab=ab;k/B;w=xab;w=yab;", "d ab", "ab");
        Check.due("parses()", x.parses(), 3);
        int[] left = {0, 1, 3, 3, 3};
        for (int e = 0; e < left.length; e++) {
            Check.due("without(" + e + ")", x.without(e), left[e]);
        }
        Check.due("count(5)", x.count(5), 2);
        Check.clue(x, "d k w", 3);
        Check.due("parses()", x.parses(), 2);
        int[] now = {0, 2, 0, 1, 1};
        for (int e = 0; e < now.length; e++) {
            Check.due("without(" + e + ")", x.without(e), now[e]);
        }
        Check.due("count(5)", x.count(5), 4);
        Check.answer(x, "ba", 2);
        Check.due("without(0) of no parses", x.without(0), 0);
        Check.due("count(5) of no parses", x.count(5), 0);
    }
}
