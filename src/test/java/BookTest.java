/** The book: promises 1 (its first entries), 5 learn, 6 forget, 10 entry, 11 entryLetter, 14 sign. */
public final class BookTest {
    private static final String[] FIRST = {"sailor=tar", "pest=rat", "ship=ss", "flower=aster", "star=sun", "back/R",
        "broken/A", "in/N", "around/C", "some/H", "later/B", "short/T", "first/I", "for/L"};

    public static void main(String[] args) {
        firstBook();
        wrongArguments();
        learning();
        learningWithoutRoom();
        forgetting();
        signs();
        Check.end();
    }

    private static void book(ClueParts x, String... entries) {
        Check.due("count(0)", x.count(0), entries.length);
        for (int e = 0; e < entries.length; e++) {
            boolean stands = entries[e].indexOf('=') >= 0;
            String[] halves = entries[e].split("[=/]");
            String letters = stands ? halves[1] : "";
            Check.due(entries[e] + " 0", x.entry(e, 0), halves[0].length());
            Check.due(entries[e] + " 1", x.entry(e, 1), stands ? 0 : 1);
            Check.due(entries[e] + " 2", x.entry(e, 2), letters.length());
            Check.due(entries[e] + " 3", x.entry(e, 3), stands ? ClueParts.NONE : halves[1].charAt(0));
            letters(x, e, 0, halves[0]);
            letters(x, e, 1, letters);
        }
        Check.due("entry(beyond the book, 0)", x.entry(entries.length, 0), ClueParts.BAD);
        Check.due("entryLetter(beyond the book, 0, 0)", x.entryLetter(entries.length, 0, 0), ClueParts.BAD);
    }

    private static void letters(ClueParts x, int e, int what, String letters) {
        for (int i = 0; i < letters.length(); i++) {
            Check.due("entryLetter(" + e + ", " + what + ", " + i + ")", x.entryLetter(e, what, i), letters.charAt(i));
        }
        int[] beyond = {letters.length(), letters.length() + 1, Integer.MAX_VALUE};
        for (int i : beyond) {
            Check.due("entryLetter(" + e + ", " + what + ", " + i + ")", x.entryLetter(e, what, i), ClueParts.NONE);
        }
    }

    private static void firstBook() {
        ClueParts x = new ClueParts();
        book(x, FIRST);
        Check.due("count(6)", x.count(6), 5);
    }

    private static void wrongArguments() {
        ClueParts x = new ClueParts();
        int[] noEntry = {-1, 14, 24, 25, Integer.MIN_VALUE, Integer.MAX_VALUE};
        for (int e : noEntry) {
            Check.due("entry(" + e + ", 0)", x.entry(e, 0), ClueParts.BAD);
            Check.due("entry(" + e + ", 3)", x.entry(e, 3), ClueParts.BAD);
            Check.due("entryLetter(" + e + ", 0, 0)", x.entryLetter(e, 0, 0), ClueParts.BAD);
            Check.due("forget(" + e + ")", x.forget(e), ClueParts.BAD);
            Check.due("without(" + e + ")", x.without(e), ClueParts.BAD);
        }
        int[] noWhat = {-1, 4, Integer.MIN_VALUE, Integer.MAX_VALUE};
        for (int what : noWhat) {
            Check.due("entry(0, " + what + ")", x.entry(0, what), ClueParts.BAD);
            Check.due("entryLetter(0, " + what + ", 0)", x.entryLetter(0, what, 0), ClueParts.BAD);
        }
        Check.due("entryLetter(0, 2, 0)", x.entryLetter(0, 2, 0), ClueParts.BAD);
        Check.due("entryLetter(0, 0, -1)", x.entryLetter(0, 0, -1), ClueParts.BAD);
        Check.due("entryLetter(5, 1, -1)", x.entryLetter(5, 1, -1), ClueParts.BAD);
        book(x, FIRST);
    }

    private static void learning() {
        ClueParts x = new ClueParts();
        Check.learn(x, "", 0);
        Check.learn(x, "sailor=tar;for/L;", 0);
        Check.learn(x, "sailor=rat;sailor=tar;b/R;sailor=rat;b/A;b/R;b=r;tar=sailor;", 5);
        Check.due("count(4) after learn()", x.count(4), 60);
        Check.due("learn() twice", x.learn(), 0);
        String[] now = java.util.Arrays.copyOf(FIRST, 19);
        now[14] = "sailor=rat";
        now[15] = "b/R";
        now[16] = "b/A";
        now[17] = "b=r";
        now[18] = "tar=sailor";
        book(x, now);
        Check.due("count(6)", x.count(6), 8);
        Check.learn(x, "c=d;c/X;", ClueParts.NO);
        Check.due("count(0) after NO", x.count(0), 19);
        ClueParts y = new ClueParts();
        Check.learn(y, "abcdefg=abcdefgh;hijklmn=zyxwvuts;a=z;z/I;", 4);
        Check.forgetAll(y);
        Check.learn(y, "abcdefg=abcdefgh;hijklmn=zyxwvuts;a=z;z/I;", 4);
        book(y, "abcdefg=abcdefgh", "hijklmn=zyxwvuts", "a=z", "z/I");
        Check.learn(y, "q=q;".repeat(50), 1);
    }

    private static void learningWithoutRoom() {
        ClueParts x = new ClueParts();
        Check.learn(x, "a=a;a=b;a=c;a=d;a=e;a=f;a=g;a=h;a=i;a=j;a=k;", ClueParts.FULL);
        book(x, FIRST);
        Check.due("parses() after FULL", x.parses(), 1);
        Check.learn(x, "a=a;a=b;a=c;a=d;a=a;in/N;a=e;a=f;a=g;a=h;a=i;a=j;a=j;for/L;", 10);
        Check.due("count(0)", x.count(0), 24);
        Check.due("learn() again", x.learn(), 0);
        Check.learn(x, "a=k;", ClueParts.FULL);
        Check.learn(x, "a=k;x", ClueParts.NO);
        Check.learn(x, "a=j;", 0);
        Check.due("forget(23)", x.forget(23), 23);
        Check.learn(x, "a=k;a=l;", ClueParts.FULL);
        Check.learn(x, "a=k;", 1);
        Check.due("entryLetter(23, 1, 0)", x.entryLetter(23, 1, 0), 'k');
    }

    private static void forgetting() {
        ClueParts x = new ClueParts();
        Check.due("forget(2)", x.forget(2), 13);
        book(x, "sailor=tar", "pest=rat", "flower=aster", "star=sun", "back/R", "broken/A", "in/N", "around/C",
                "some/H", "later/B", "short/T", "first/I", "for/L");
        Check.due("forget(12)", x.forget(12), 12);
        Check.due("forget(12) again", x.forget(12), ClueParts.BAD);
        Check.due("forget(0)", x.forget(0), 11);
        book(x, "pest=rat", "flower=aster", "star=sun", "back/R", "broken/A", "in/N", "around/C", "some/H", "later/B",
                "short/T", "first/I");
        Check.forgetAll(x);
        book(x);
        Check.due("forget(0) of no entries", x.forget(0), ClueParts.BAD);
        Check.due("parses() with no entries", x.parses(), 0);
        Check.due("count(5) with no entries", x.count(5), 0);
        Check.due("count(6) with no entries", x.count(6), 0);
        Check.due("offer(-1) with no entries", x.offer(-1), 0);
    }

    private static void signs() {
        ClueParts x = new ClueParts();
        Check.clue(x, "back broken in around some later", 6);
        for (int w = 0; w < 6; w++) {
            int own = new int[] {2, 3, 5, 4, 6, 7}[w];
            for (int sort = 2; sort <= 10; sort++) {
                Check.due("sign(" + w + ", " + sort + ")", x.sign(w, sort), sort == own ? 1 : 0);
            }
        }
        Check.clue(x, "short first for x", 4);
        for (int w = 0; w < 4; w++) {
            for (int sort = 2; sort <= 10; sort++) {
                Check.due("sign(" + w + ", " + sort + ")", x.sign(w, sort), sort == w + 8 && w < 3 ? 1 : 0);
            }
        }
        Check.learn(x, "x=x;x/T;x/R;", 3);
        Check.due("sign(3, 8)", x.sign(3, 8), 1);
        Check.due("sign(3, 2)", x.sign(3, 2), 1);
        Check.due("sign(3, 10)", x.sign(3, 10), 0);
        Check.due("forget(16)", x.forget(16), 16);
        Check.due("sign(3, 2) after forget", x.sign(3, 2), 0);
        int[] wrong = {-1, 4, 6, Integer.MIN_VALUE, Integer.MAX_VALUE};
        for (int w : wrong) {
            Check.due("sign(" + w + ", 2)", x.sign(w, 2), ClueParts.BAD);
        }
        int[] noSort = {-1, 0, 1, 11, 34, Integer.MIN_VALUE, Integer.MAX_VALUE};
        for (int sort : noSort) {
            Check.due("sign(0, " + sort + ")", x.sign(0, sort), ClueParts.BAD);
        }
    }
}
