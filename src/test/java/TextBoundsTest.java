/** The boundary cases of the text and of its three readings: promises 2 write, 3 wipe, 4 fault, 7 clue, 8 answer. */
public final class TextBoundsTest extends Bounds {
    private static final String SMALL = "abcdefghijklmnopqrstuvwxyz";
    private static final String SIGNS = "RACNHBTIL";
    /** The longest clue, and 50 entries: the longest book. */
    private static final String LONG_CLUE = "abcdefg hijklmn opqrstu vwxyzab cdefghi jklmnop";
    private static final String FULL_BOOK = "a=b;".repeat(50);

    public static void main(String[] args) {
        write();
        wipe();
        readingLeavesTheText();
        faultOfManyEntries();
        faultOfAWord();
        faultOfLetters();
        faultOfASign();
        faultOfASemicolon();
        faultPlace();
        clueWords();
        clueLetters();
        clueBlanks();
        clueState();
        answerLetters();
        answerState();
        Check.end();
    }

    private static String written(String text) {
        return "text \"" + text + "\"; ";
    }

    private static void write() {
        run("2: its ASCII code, 32 to 126", """
                write(31) = BAD; write(127) = BAD; count(4) = 0
                write(32) = 1; write(126) = 2; write(31) = BAD; write(127) = BAD; count(4) = 2""");
        run("2: BAD if letter is out of range, far out too", """
                write(-1) = BAD; write(0) = BAD; write(10) = BAD; write(128) = BAD; write(160) = BAD
                write(353) = BAD; write(65633) = BAD; write(-97) = BAD; write(LEAST) = BAD; write(MOST) = BAD
                count(4) = 0""");
        StringBuilder all = new StringBuilder();
        for (int letter = 32; letter <= 126; letter++) {
            all.append("write(").append(letter).append(") = ").append(letter - 31).append('\n');
        }
        run("2: every code from 32 to 126 is a character", all.toString());
        run("2: the text is a buffer of at most 200 characters", written("a".repeat(199)) + """
                count(4) = 199; write(97) = 200; write(97) = FULL; count(4) = 200
                write(32) = FULL; write(126) = FULL; count(4) = 200""");
        run("2: BAD is checked before FULL", written("a".repeat(200)) + """
                write(31) = BAD; write(127) = BAD; write(LEAST) = BAD; write(MOST) = BAD; write(97) = FULL""");
        run("2: a character that had no room is not there later", written("a=b;".repeat(49) + "a=bc")
                + "write(59) = FULL; fault() = 196; learn() = NO; wipe() = 200; write(97) = 1");
    }

    private static void wipe() {
        run("3: empties the text; the length that it had", """
                wipe() = 0; write(97) = 1; wipe() = 1; count(4) = 0; wipe() = 0; count(4) = 0""");
        run("3: a full text", written("a".repeat(200)) + "write(97) = FULL; wipe() = 200; write(97) = 1; count(4) = 1");
        run("3: nothing is left of the text that was", """
                text "ab"; wipe() = 2; answer() = NO; text "a b"; wipe() = 3; clue() = NO
                text "a=b;"; wipe() = 4; learn() = 0; fault() = NONE; more "c"; fault() = 0; count(0) = 14""");
        run("3: only the text is emptied", """
                learn "a=b;" = 1; clue "a b" = 2; answer "ab" = 2; wipe() = 2
                count(0) = 15; count(1) = 2; count(2) = 2; clueLetter(1, 0) = 'b'; answerLetter(1) = 'b'""");
    }

    private static void readingLeavesTheText() {
        run("the text stays when it is read as a book", "learn \"a=b;\" = 1; count(4) = 4; more \"c=d;\"; learn() = 1");
        run("the text stays when it is read as a clue", "clue \"a b\" = 2; count(4) = 3; more \" c\"; clue() = 3");
        run("the text stays when it is read as an answer", "answer \"ab\" = 2; count(4) = 2; more \"c\"; answer() = 3");
        run("the text stays when it is refused", """
                text "a"; fault() = 0; learn() = NO; clue() = NO; answer() = NO; count(4) = 1
                more "b"; answer() = 2; more " c"; clue() = 2; wipe() = 4""");
    }

    private static void fault(String sentence, String text, int due) {
        String code = due == ClueParts.NONE ? "NONE" : Integer.toString(due);
        run("4: " + sentence + " in " + text, written(text) + "fault() = " + code + "; "
                + (due == ClueParts.NONE ? "" : "learn() = NO; ") + "count(4) = " + text.length());
    }

    private static void good(String sentence, String text) {
        fault(sentence, text, ClueParts.NONE);
    }

    private static void faultOfManyEntries() {
        run("4: NONE also if it is empty", "fault() = NONE; text \"a\"; wipe() = 1; fault() = NONE");
        good("one entry", "a=b;");
        good("any number of entries", FULL_BOOK);
        good("one directly after the other", "a=b;c/R;d=e;f/L;");
        fault("a blank between two entries", "a=b; c=d;", 4);
        fault("a blank before the entries", " a=b;", 0);
        fault("a blank after the entries", "a=b; ", 4);
        fault("two semicolons", "a=b;;", 4);
        fault("a comma between two entries", "a=b;,c=d;", 4);
        fault("nothing but a semicolon", ";", 0);
    }

    private static void faultOfAWord() {
        fault("a word of 1 to 7 letters: none", "=b;", 0);
        fault("a word of 1 to 7 letters: none", "/R;", 0);
        good("a word of 1 to 7 letters: 1", "a=b;");
        good("a word of 1 to 7 letters: 1", "a/R;");
        good("a word of 1 to 7 letters: 7", "abcdefg=b;");
        good("a word of 1 to 7 letters: 7", "abcdefg/R;");
        fault("a word of 1 to 7 letters: 8", "abcdefgh=b;", 0);
        fault("a word of 1 to 7 letters: 8", "abcdefgh/R;", 0);
        fault("a word of 1 to 7 letters: 200", "a".repeat(200), 0);
        everySign("a word of small letters: its only letter", "", "=b;", SMALL);
        everySign("a word of small letters: its first letter", "", "bcdefg/R;", SMALL);
        everySign("a word of small letters: its last letter", "abcdef", "=b;", SMALL);
    }

    /** Each of the 95 characters at one place of an entry; the entry before it is good. */
    private static void everySign(String sentence, String before, String after, String allowed) {
        for (char c = 32; c <= 126; c++) {
            if (c != '"') {
                String text = "p=q;" + before + c + after;
                // A semicolon behind some letters makes the entry whole, and what follows is the wrong one.
                int wrong = c == ';' && before.matches("a=[a-z]+") ? 4 + before.length() + 1 : 4;
                int due = allowed.indexOf(c) >= 0 ? ClueParts.NONE : wrong;
                ClueParts x = new ClueParts();
                Check.text(x, text);
                Check.due("4: " + sentence + ", fault() of " + text, x.fault(), due);
                Check.due("5: NO if the text has a fault: " + text, x.learn() == ClueParts.NO ? 1 : 0, due < 0 ? 0 : 1);
            }
        }
    }

    private static void faultOfLetters() {
        fault("= and 1 to 8 letters: none", "a=;", 0);
        good("= and 1 to 8 letters: 1", "a=b;");
        good("= and 1 to 8 letters: 8", "a=bcdefghi;");
        good("= and 1 to 8 letters: 8 after a word of 7", "abcdefg=bcdefghi;");
        fault("= and 1 to 8 letters: 9", "a=bcdefghij;", 0);
        fault("= and 1 to 8 letters: two =", "a=b=c;", 0);
        fault("= and 1 to 8 letters: two = together", "a==b;", 0);
        everySign("either = or /", "a", "b;", "=");
        everySign("small letters: the only one", "a=", ";", SMALL);
        everySign("small letters: the first one", "a=", "bcdefgh;", SMALL);
        everySign("small letters: the eighth one", "a=abcdefg", ";", SMALL);
    }

    private static void faultOfASign() {
        fault("/ and one of the letters: none", "a/;", 0);
        fault("/ and one of the letters: two", "a/RA;", 0);
        fault("/ and one of the letters: twice", "a/R/A;", 0);
        fault("/ and = both", "a/R=b;", 0);
        fault("= and / both", "a=b/R;", 0);
        everySign("/ and one of the letters R A C N H B T I L", "a/", ";", SIGNS);
        everySign("either / or =", "a", "R;", "/");
    }

    private static void faultOfASemicolon() {
        fault("then a semicolon: the text ends after =", "a=", 0);
        fault("then a semicolon: the text ends after the word", "a", 0);
        fault("then a semicolon: the text ends after /", "a/", 0);
        fault("then a semicolon: the text ends after the letters", "a=b", 0);
        fault("then a semicolon: the text ends after the sign", "a/R", 0);
        fault("then a semicolon: the text ends in a later entry", "a=b;c/R;d=e", 8);
        everySign("then a semicolon, after /", "a/R", "", ";");
        everySign("then a semicolon, after eight letters", "a=abcdefgh", "", ";");
    }

    private static void faultPlace() {
        fault("the place is counted from 0", "A=b;", 0);
        fault("the first character of the entry, not the wrong one", "a=b;abcdefg=abcdefghi;", 4);
        fault("the first entry that does not follow the rules", "a=b;c=d;e;f;", 8);
        fault("the last entry of a full text", "a=b;".repeat(49) + "a=bc", 196);
        fault("the last character of a full text", "a=b;".repeat(48) + "ab=cde;" + "x", 199);
        fault("the first entry of a full text", ".a=b;" + "a=b;".repeat(48) + "abc", 0);
        run("4: the fault goes as soon as the entry is whole", """
                text "a=b;c"; fault() = 4; more "/"; fault() = 4; more "T"; fault() = 4; more ";"; fault() = NONE
                more ";"; fault() = 8; wipe() = 9; fault() = NONE""");
    }

    private static void clue(String sentence, String text, int due) {
        run("7: " + sentence + " in " + text, written(text) + "clue() = " + due + "; count(4) = " + text.length()
                + "; count(1) = " + (due < 0 ? 3 : due));
    }

    private static void clueWords() {
        int no = ClueParts.NO;
        clue("2 to 6 words: none", "", no);
        clue("2 to 6 words: 1", "a", no);
        clue("2 to 6 words: 2", "a b", 2);
        clue("2 to 6 words: 6", "a b c d e f", 6);
        clue("2 to 6 words: 7", "a b c d e f g", no);
        clue("2 to 6 words: 6 of the longest", LONG_CLUE, 6);
        clue("2 to 6 words: 7 of the longest", LONG_CLUE + " qrstuvw", no);
        clue("2 to 6 words: 100", "a ".repeat(99) + "a", no);
    }

    private static void clueLetters() {
        int no = ClueParts.NO;
        clue("words of 1 to 7 letters: 7 in the first one", "abcdefg b", 2);
        clue("words of 1 to 7 letters: 8 in the first one", "abcdefgh b", no);
        clue("words of 1 to 7 letters: 7 in the last one", "a bcdefgh", 2);
        clue("words of 1 to 7 letters: 8 in the last one", "a bcdefghi", no);
        clue("words of 1 to 7 letters: 8 in the sixth one", "a b c d e fghijklm", no);
        everyClue("small letters: the first word", "", " b", SMALL);
        everyClue("small letters: the seventh letter of the first word", "abcdef", " b", SMALL);
        everyClue("small letters: the last word", "a ", "", SMALL);
        everyClue("small letters: the seventh letter of the last word", "a bcdefg", "", SMALL);
    }

    private static void everyClue(String sentence, String before, String after, String allowed) {
        for (char c = 32; c <= 126; c++) {
            String text = before + c + after;
            ClueParts x = new ClueParts();
            Check.text(x, text);
            Check.due("7: " + sentence + ", clue() of " + text, x.clue(), allowed.indexOf(c) < 0 ? ClueParts.NO : 2);
        }
    }

    private static void clueBlanks() {
        int no = ClueParts.NO;
        clue("one blank between two words: two", "a  b", no);
        clue("one blank between two words: two before the last of six", "a b c d e  f", no);
        clue("one blank between two words: one before the first", " a b", no);
        clue("one blank between two words: one behind the last", "a b ", no);
        clue("one blank between two words: one behind the sixth", "a b c d e f ", no);
        clue("one blank between two words: nothing else", " ", no);
        clue("one blank between two words: none", "ab", no);
        everyClue("one blank between two words", "a", "b", " ");
    }

    private static void clueState() {
        run("7: makes the text the clue; a word that was is not there later", """
                clue "ab cde f g h ijklmno" = 6; count(1) = 6; clueLetter(5, 6) = 'o'; clueLetter(0, 1) = 'b'
                clue "pq r" = 2; count(1) = 2; clueLetter(2, -1) = BAD; clueLetter(2, 0) = BAD; sign(2, 2) = BAD
                clueLetter(0, -1) = 2; clueLetter(0, 0) = 'p'; clueLetter(1, -1) = 1; clueLetter(1, 0) = 'r'
                clueLetter(1, 1) = NONE""");
        run("7: NO changes nothing", """
                clue "ab cd" = 2; clue "ab" = NO; clue "ab cd " = NO; clue "x y z Q" = NO; wipe() = 7; clue() = NO
                count(1) = 2; clueLetter(0, 0) = 'a'; clueLetter(1, 1) = 'd'; clueLetter(2, 0) = BAD""");
        run("7: the answer and the book stay", """
                clue "ab cd" = 2; count(0) = 14; count(2) = 3; answerLetter(0) = 't'; parses() = 0; count(5) = 0""");
    }

    private static void answer(String sentence, String text, int due) {
        run("8: " + sentence + " in " + text, written(text) + "answer() = " + due + "; count(4) = " + text.length()
                + "; count(2) = " + (due < 0 ? 3 : due));
    }

    private static void answerLetters() {
        int no = ClueParts.NO;
        answer("2 to 8 letters: none", "", no);
        answer("2 to 8 letters: 1", "a", no);
        answer("2 to 8 letters: 2", "ab", 2);
        answer("2 to 8 letters: 8", "abcdefgh", 8);
        answer("2 to 8 letters: 9", "abcdefghi", no);
        answer("2 to 8 letters: 200", "a".repeat(200), no);
        answer("2 to 8 letters: a blank between them", "ab cd", no);
        answer("2 to 8 letters: a blank before them", " ab", no);
        answer("2 to 8 letters: a blank behind them", "ab ", no);
        answer("2 to 8 letters: an entry", "ab=c;", no);
        everyAnswer("", "b", 2);
        everyAnswer("a", "", 2);
        everyAnswer("abc", "efgh", 8);
        everyAnswer("abcdefg", "", 8);
    }

    private static void everyAnswer(String before, String after, int letters) {
        for (char c = 32; c <= 126; c++) {
            String text = before + c + after;
            ClueParts x = new ClueParts();
            Check.text(x, text);
            Check.due("8: small letters, answer() of " + text, x.answer(),
                    SMALL.indexOf(c) < 0 ? ClueParts.NO : letters);
        }
    }

    private static void answerState() {
        run("8: makes the text the answer; a letter that was is not there later", """
                answer "abcdefgh" = 8; count(2) = 8; answerLetter(7) = 'h'; answerLetter(8) = NONE
                answer "zy" = 2; count(2) = 2; answerLetter(0) = 'z'; answerLetter(1) = 'y'; answerLetter(2) = NONE
                pieces(0, 1, 0, 3) = BAD; pieces(0, 1, 2, 3) = BAD""");
        run("8: NO changes nothing", """
                answer "zy" = 2; answer "z" = NO; answer "abcdefghi" = NO; answer "zY" = NO; wipe() = 2; answer() = NO
                count(2) = 2; answerLetter(0) = 'z'; answerLetter(1) = 'y'; answerLetter(2) = NONE""");
        run("8: the same answer again is no fault", "answer \"tar\" = 3; answer() = 3; parses() = 1; cost() = 2");
        run("8: the clue and the book stay", "answer \"rat\" = 3; count(0) = 14; count(1) = 3; line = \"<pest=R(tar)\"");
    }
}
