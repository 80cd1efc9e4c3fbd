/**
 * The boundary cases of the book: promises 1 (the first book), 5 learn, 6 forget, 10 entry, 11 entryLetter, 14 sign,
 * and count(0) and count(6) of promise 26.
 */
public final class BookBoundsTest extends Bounds {
    /** Ten entries that fill the first book to 24, and ten that fill the rest of an empty one. */
    private static final String TEN = "a=a;a=b;a=c;a=d;a=e;a=f;a=g;a=h;a=i;a=j;";
    private static final String FOURTEEN = "a=k;a=l;a=m;a=n;a=o;a=p;a=q;a=r;a=s;a=t;a=u;a=v;a=w;a=x;";

    public static void main(String[] args) {
        firstBook();
        learnNothing();
        learnOnlyNewEntries();
        learnDifferentEntries();
        learnOrNot();
        learnUntilFull();
        forget();
        forgetAll();
        entryArguments();
        entryProperties();
        entryLetterArguments();
        entryLetterEnds();
        signArguments();
        signs();
        counts();
        Check.end();
    }

    private static void firstBook() {
        run("1: the first book has 14 entries, numbered from 0", """
                count(0) = 14; entry(-1, 0) = BAD; entry(0, 0) = 6; entry(13, 0) = 3; entry(14, 0) = BAD
                entryLetter(0, 0, 0) = 's'; entryLetter(0, 1, 0) = 't'; entry(13, 3) = 'L'; entryLetter(13, 0, 2) = 'r'
                """);
        StringBuilder all = new StringBuilder();
        String[] entries = {"sailor=tar", "pest=rat", "ship=ss", "flower=aster", "star=sun", "back/R", "broken/A", "in/N",
            "around/C", "some/H", "later/B", "short/T", "first/I", "for/L"};
        for (int e = 0; e < entries.length; e++) {
            String[] halves = entries[e].split("[=/]");
            boolean stands = entries[e].contains("=");
            letters(all, e, 0, halves[0]);
            letters(all, e, 1, stands ? halves[1] : "");
            all.append("entry(").append(e).append(", 3) = ").append(stands ? "NONE" : "'" + halves[1] + "'").append('\n');
        }
        run("1: all entries of the first book, in their order", all.toString());
        run("1: the sorts of its indicators", """
                entry(4, 3) = NONE; entry(5, 3) = 'R'; entry(6, 3) = 'A'; entry(7, 3) = 'N'; entry(8, 3) = 'C'
                entry(9, 3) = 'H'; entry(10, 3) = 'B'; entry(11, 3) = 'T'; entry(12, 3) = 'I'; entry(13, 3) = 'L'""");
        run("1: the text is empty", "count(4) = 0; wipe() = 0; fault() = NONE; clue() = NO; answer() = NO");
    }

    private static void letters(StringBuilder script, int e, int what, String letters) {
        for (int i = 0; i <= letters.length(); i++) {
            script.append("entryLetter(").append(e).append(", ").append(what).append(", ").append(i).append(") = ")
                    .append(i < letters.length() ? "'" + letters.charAt(i) + "'" : "NONE").append('\n');
        }
    }

    private static void learnNothing() {
        run("5: any number of entries, also none", "learn() = 0; count(0) = 14; text \"a\"; wipe() = 1; learn() = 0");
        run("5: none, into a book without entries", "book \"\"; count(0) = 0; learn() = 0; count(0) = 0");
        run("5: none, into a full book", "learn \"" + TEN + "\" = 10; learn \"\" = 0; count(0) = 24");
    }

    private static void learnOnlyNewEntries() {
        run("5: except those that are in the book already", """
                learn "sailor=tar;" = 0; learn "for/L;" = 0; learn "back/R;in/N;star=sun;" = 0; count(0) = 14
                learn "sailor=tar;a=b;for/L;" = 1; count(0) = 15; entryLetter(14, 0, 0) = 'a'; learn() = 0""");
        run("5: except those that occur earlier in the text", """
                learn "a=b;a=b;" = 1; count(0) = 15; learn "c/R;a=b;c/R;d=e;c/R;d=e;" = 2; count(0) = 17
                entryLetter(15, 0, 0) = 'c'; entryLetter(16, 0, 0) = 'd'; entry(17, 0) = BAD""");
        run("5: 50 equal entries are one", "learn \"" + "a=b;".repeat(50) + "\" = 1; count(0) = 15");
        run("5: an entry that was removed is new again, and comes last", """
                forget(0) = 13; learn "sailor=tar;pest=rat;" = 1; count(0) = 14; entryLetter(13, 0, 0) = 's'
                entryLetter(0, 0, 0) = 'p'""");
        run("5: in their order", """
                book "c=x;a=y;b/T;"; entryLetter(0, 0, 0) = 'c'; entryLetter(1, 0, 0) = 'a'; entryLetter(2, 0, 0) = 'b'
                """);
    }

    private static void learnDifferentEntries() {
        run("5: no two are equal, but a word may have many", """
                learn "sailor=ta;sailor=tars;sailor=tab;sailo=tar;sailors=tar;sailor/R;sailor/A;" = 7; count(0) = 21
                count(6) = 10""");
        run("5: the word and the letters count, not both together", "learn \"ab=c;a=bc;abc=c;\" = 3; count(0) = 17");
        run("5: an indicator is not its letter", "learn \"r=r;r/R;a=r;a/R;\" = 4; count(0) = 18; count(6) = 7");
        run("5: the last of 8 letters, the last of 7 letters", """
                learn "abcdefg=abcdefgh;abcdefg=abcdefgz;abcdefz=abcdefgh;abcdefg=abcdefg;" = 4; entryLetter(14, 1, 7) = 'h'
                entryLetter(15, 1, 7) = 'z'; entryLetter(16, 0, 6) = 'z'; entryLetter(17, 1, 7) = NONE""");
    }

    private static void learnOrNot() {
        run("5: NO if the text has a fault: at its end", """
                learn "a=b;c=d" = NO; count(0) = 14; learn "a=b;c/X;" = NO; learn "a=b;c=d; " = NO; count(0) = 14
                entry(14, 0) = BAD""");
        run("5: NO if the text has a fault: at its beginning", "learn \" a=b;\" = NO; learn \";a=b;\" = NO; count(0) = 14");
        run("5: NO if the text has a fault: all entries are there already", "learn \"sailor=tar;x\" = NO; count(0) = 14");
        run("5: NO is checked before FULL", "learn \"" + TEN + "\" = 10; text \"a=k;x\"; learn() = NO; count(0) = 24");
        run("5: NO is checked before FULL, in one text", "learn \"" + TEN + "a=k;x\" = NO; count(0) = 14");
    }

    private static void learnUntilFull() {
        run("5: the book has at most 24 entries", "learn \"" + TEN + "\" = 10; count(0) = 24; entryLetter(23, 1, 0) = 'j'");
        run("5: FULL if there would be more than 24: 25", "learn \"" + TEN + "a=k;\" = FULL; count(0) = 14; entry(14, 0) = BAD");
        run("5: FULL, none is added, also not those that have room", """
                learn "a=a;a=b;a=c;a=d;a=e;a=f;a=g;a=h;a=i;" = 9; count(0) = 23; learn "b=a;b=b;" = FULL; count(0) = 23
                entry(23, 0) = BAD; parses() = 1; learn "b=b;" = 1; count(0) = 24; learn "b=a;" = FULL; count(0) = 24
                entryLetter(23, 1, 0) = 'b'""");
        run("5: entries that are not added need no room", "learn \"sailor=tar;a=a;" + TEN + "a=j;for/L;\" = 10; count(0) = 24;"
                + "learn() = 0; learn \"a=j;a=j;pest=rat;\" = 0; count(0) = 24");
        run("5: 24 entries at once", "book \"" + TEN + FOURTEEN + "\"; count(0) = 24; entryLetter(0, 1, 0) = 'a';"
                + "entryLetter(23, 1, 0) = 'x'; learn \"a=y;\" = FULL; forget(0) = 23; learn() = 1; entryLetter(23, 1, 0) = 'y'");
        run("5: 25 entries at once", "book \"\"; learn \"" + TEN + FOURTEEN + "a=y;\" = FULL; count(0) = 0; entry(0, 0) = BAD");
        run("5: FULL changes nothing of the parses", "learn \"" + TEN + "pest/R;back=rat;\" = FULL; parses() = 1; count(5) = 3");
    }

    private static void forget() {
        run("6: BAD if there is no such entry", """
                forget(-1) = BAD; forget(14) = BAD; forget(15) = BAD; forget(23) = BAD; forget(24) = BAD
                forget(LEAST) = BAD; forget(MOST) = BAD; count(0) = 14""");
        run("6: the first entry; the numbers of all later ones decrease by 1", """
                forget(0) = 13; entryLetter(0, 0, 0) = 'p'; entryLetter(12, 0, 0) = 'f'; entry(12, 3) = 'L'
                entry(13, 0) = BAD; forget(13) = BAD""");
        run("6: the last entry; no number changes", """
                forget(13) = 13; entryLetter(0, 0, 0) = 's'; entry(12, 3) = 'I'; entry(13, 0) = BAD; forget(13) = BAD""");
        run("6: an entry in the middle; the numbers of earlier ones stay", """
                forget(5) = 13; entryLetter(4, 0, 0) = 's'; entry(5, 3) = 'A'; entry(12, 3) = 'L'; forget(4) = 12
                entry(3, 2) = 5; entry(4, 3) = 'A'""");
        run("6: of a full book", "learn \"" + TEN + "\" = 10; forget(24) = BAD; forget(23) = 23; entry(23, 0) = BAD;"
                + "forget(0) = 22; entryLetter(21, 1, 0) = 'i'; count(0) = 22");
        run("6: it counts for parses at once", "parses() = 1; forget(5) = 13; parses() = 0; cost() = NONE; sign(1, 2) = 0");
    }

    private static void forgetAll() {
        run("6: until none is left", """
                book "a=b;c=d;"; forget(2) = BAD; forget(1) = 1; forget(1) = BAD; forget(0) = 0; forget(0) = BAD
                count(0) = 0; count(6) = 0; entry(0, 0) = BAD; entryLetter(0, 0, 0) = BAD; without(0) = BAD""");
        run("6: a book without entries", """
                book ""; parses() = 0; cost() = NONE; first(-1) = NONE; cheapest() = 0; offer(-1) = 0; offer(0) = NONE
                take(0) = BAD; ifOffer(0, 0) = BAD; count(3) = 0; count(5) = 0; sign(0, 2) = 0; pieces(0, 3, 0, 3) = 0
                forget(0) = BAD; forget(-1) = BAD""");
    }

    private static void entryArguments() {
        run("10: BAD if there is no such entry", """
                entry(-1, 0) = BAD; entry(14, 0) = BAD; entry(14, 1) = BAD; entry(14, 2) = BAD; entry(14, 3) = BAD
                entry(-1, 3) = BAD; entry(24, 0) = BAD; entry(LEAST, 0) = BAD; entry(MOST, 0) = BAD
                entry(0, 0) = 6; entry(13, 0) = 3""");
        run("10: BAD if what is not 0 to 3", """
                entry(0, -1) = BAD; entry(0, 4) = BAD; entry(5, -1) = BAD; entry(5, 4) = BAD; entry(0, LEAST) = BAD
                entry(0, MOST) = BAD; entry(14, 4) = BAD; entry(-1, -1) = BAD; entry(0, 0) = 6; entry(0, 3) = NONE""");
    }

    private static void entryProperties() {
        run("10: the length of the word, 1 to 7", "book \"a=bc;abcdefg/R;\"; entry(0, 0) = 1; entry(1, 0) = 7");
        run("10: 0 if it says what its word may stand for, or 1", "book \"a=r;a/R;\"; entry(0, 1) = 0; entry(1, 1) = 1");
        run("10: the number of letters, 1 to 8, or 0 for an indicator", """
                book "a=b;a=bcdefghi;a/L;"; entry(0, 2) = 1; entry(1, 2) = 8; entry(2, 2) = 0""");
        run("10: the letter of the sort, or NONE", """
                book "a=r;a/R;b/A;c/C;d/N;e/H;f/B;g/T;h/I;i/L;"; entry(0, 3) = NONE; entry(1, 3) = 82; entry(2, 3) = 65
                entry(3, 3) = 67; entry(4, 3) = 78; entry(5, 3) = 72; entry(6, 3) = 66; entry(7, 3) = 84
                entry(8, 3) = 73; entry(9, 3) = 76; entry(10, 3) = BAD""");
        run("10: NONE is returned only if no error code applies", "entry(13, 3) = 'L'; entry(14, 3) = BAD; entry(0, 3) = NONE");
    }

    private static void entryLetterArguments() {
        run("11: BAD if there is no such entry", """
                entryLetter(-1, 0, 0) = BAD; entryLetter(14, 0, 0) = BAD; entryLetter(14, 1, 0) = BAD
                entryLetter(24, 0, 0) = BAD; entryLetter(LEAST, 0, 0) = BAD; entryLetter(MOST, 0, 0) = BAD
                entryLetter(0, 0, 0) = 's'; entryLetter(13, 0, 0) = 'f'""");
        run("11: BAD if what is not 0 or 1", """
                entryLetter(0, -1, 0) = BAD; entryLetter(0, 2, 0) = BAD; entryLetter(0, LEAST, 0) = BAD
                entryLetter(0, MOST, 0) = BAD; entryLetter(0, 0, 0) = 's'; entryLetter(0, 1, 0) = 't'""");
        run("11: BAD if i is negative", """
                entryLetter(0, 0, -1) = BAD; entryLetter(0, 1, -1) = BAD; entryLetter(5, 1, -1) = BAD
                entryLetter(0, 0, LEAST) = BAD; entryLetter(0, 1, -5) = BAD""");
        run("11: NONE is returned only if no error code applies", """
                entryLetter(14, 0, 99) = BAD; entryLetter(-1, 1, 99) = BAD; entryLetter(0, 2, 99) = BAD
                entryLetter(0, -1, 99) = BAD; entryLetter(0, 0, 99) = NONE; entryLetter(0, 1, 99) = NONE""");
    }

    private static void entryLetterEnds() {
        run("11: the letters of a word of 6 and for 3", """
                entryLetter(0, 0, 5) = 'r'; entryLetter(0, 0, 6) = NONE; entryLetter(0, 0, 7) = NONE
                entryLetter(0, 1, 2) = 'r'; entryLetter(0, 1, 3) = NONE; entryLetter(0, 1, 5) = NONE""");
        run("11: the longest entry", """
                book "abcdefg=hijklmno;"; entryLetter(0, 0, 0) = 'a'; entryLetter(0, 0, 6) = 'g'; entryLetter(0, 0, 7) = NONE
                entryLetter(0, 1, 0) = 'h'; entryLetter(0, 1, 7) = 'o'; entryLetter(0, 1, 8) = NONE
                entryLetter(0, 0, 12) = NONE; entryLetter(0, 1, 13) = NONE; entryLetter(0, 1, 64) = NONE""");
        run("11: the shortest entry", """
                book "a=z;"; entryLetter(0, 0, 0) = 'a'; entryLetter(0, 0, 1) = NONE; entryLetter(0, 1, 0) = 'z'
                entryLetter(0, 1, 1) = NONE; entryLetter(0, 0, MOST) = NONE; entryLetter(0, 1, MOST) = NONE""");
        run("11: an indicator stands for no letters", """
                entryLetter(5, 0, 3) = 'k'; entryLetter(5, 0, 4) = NONE; entryLetter(5, 1, 0) = NONE
                entryLetter(5, 1, 1) = NONE; entryLetter(13, 1, 0) = NONE; entryLetter(5, 1, MOST) = NONE""");
    }

    private static void signArguments() {
        run("14: BAD if there is no such word", """
                sign(-1, 2) = BAD; sign(3, 2) = BAD; sign(5, 2) = BAD; sign(6, 2) = BAD; sign(LEAST, 2) = BAD
                sign(MOST, 2) = BAD; sign(0, 2) = 0; sign(1, 2) = 1; sign(2, 2) = 0""");
        run("14: BAD if sort is not 2 to 10", """
                sign(1, 1) = BAD; sign(1, 11) = BAD; sign(1, 0) = BAD; sign(1, -1) = BAD; sign(1, LEAST) = BAD
                sign(1, MOST) = BAD; sign(1, 33) = BAD; sign(1, 34) = BAD; sign(1, 2) = 1; sign(1, 10) = 0""");
        run("14: the words of the shortest clue", """
                clue "back for" = 2; sign(0, 2) = 1; sign(1, 10) = 1; sign(2, 10) = BAD; sign(2, 2) = BAD""");
        run("14: the words of the longest clue", """
                clue "a b c d e for" = 6; sign(5, 10) = 1; sign(5, 2) = 0; sign(6, 10) = BAD; sign(0, 10) = 0""");
    }

    private static void signs() {
        run("14: 1 for the sort of the indicator alone", """
                clue "broken around in some later short" = 6; sign(0, 3) = 1; sign(1, 4) = 1; sign(2, 5) = 1; sign(3, 6) = 1
                sign(4, 7) = 1; sign(5, 8) = 1; sign(0, 2) = 0; sign(0, 4) = 0; sign(1, 3) = 0; sign(1, 5) = 0
                sign(2, 4) = 0; sign(2, 6) = 0; sign(3, 5) = 0; sign(3, 7) = 0; sign(4, 6) = 0; sign(4, 8) = 0
                sign(5, 7) = 0; sign(5, 9) = 0; clue "first for" = 2; sign(0, 9) = 1; sign(0, 8) = 0; sign(0, 10) = 0
                sign(1, 10) = 1; sign(1, 9) = 0""");
        run("14: a word may be an indicator of all sorts", """
                book "a/R;a/A;a/C;a/N;a/H;a/B;a/T;a/I;a/L;"; clue "a b" = 2; sign(0, 2) = 1; sign(0, 3) = 1; sign(0, 4) = 1
                sign(0, 5) = 1; sign(0, 6) = 1; sign(0, 7) = 1; sign(0, 8) = 1; sign(0, 9) = 1; sign(0, 10) = 1
                sign(1, 2) = 0; sign(1, 10) = 0""");
        run("14: of none if it only may stand for letters", "sign(0, 2) = 0; sign(0, 10) = 0; sign(2, 2) = 0; sign(2, 10) = 0");
        run("14: a part of an indicator is none", "clue \"bac backs\" = 2; sign(0, 2) = 0; sign(1, 2) = 0");
        run("14: the last entry of a full book", "learn \"a=a;a=b;a=c;a=d;a=e;a=f;a=g;a=h;a=i;a/L;\" = 10;"
                + "clue \"a b\" = 2; sign(0, 10) = 1; forget(23) = 23; sign(0, 10) = 0");
    }

    private static void counts() {
        run("26: the number of entries, and of those that are not indicators", """
                count(0) = 14; count(6) = 5; forget(13) = 13; count(0) = 13; count(6) = 5; forget(0) = 12; count(0) = 12
                count(6) = 4; learn "a=b;a/R;" = 2; count(0) = 14; count(6) = 5""");
        run("26: of a book of indicators alone", "book \"a/R;b/R;\"; count(0) = 2; count(6) = 0");
        run("26: of a book of 24 that are not", "book \"" + TEN + FOURTEEN + "\"; count(0) = 24; count(6) = 24");
    }
}
