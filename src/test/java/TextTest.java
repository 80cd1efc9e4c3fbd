/** The text and the three ways to read it: promises 2 write, 3 wipe, 4 fault, 7 clue, 8 answer. */
public final class TextTest {
    public static void main(String[] args) {
        writing();
        writingWithoutRoom();
        faults();
        clues();
        answers();
        Check.end();
    }

    private static void writing() {
        ClueParts x = new ClueParts();
        int[] refused = {31, 127, 0, -1, 10, 128, 65536 + 97, Integer.MIN_VALUE, Integer.MAX_VALUE};
        for (int letter : refused) {
            Check.due("write(" + letter + ")", x.write(letter), ClueParts.BAD);
        }
        Check.due("count(4) after refused letters", x.count(4), 0);
        for (int letter = 32; letter <= 126; letter++) {
            Check.due("write(" + letter + ")", x.write(letter), letter - 31);
        }
        Check.due("count(4)", x.count(4), 95);
        Check.due("wipe()", x.wipe(), 95);
        Check.due("count(4) after wipe()", x.count(4), 0);
        Check.due("wipe() twice", x.wipe(), 0);
        Check.due("write(97) after wipe()", x.write(97), 1);
    }

    private static void writingWithoutRoom() {
        ClueParts x = new ClueParts();
        for (int i = 1; i <= 200; i++) {
            Check.due("write(97)", x.write(97), i);
        }
        Check.due("write(97) beyond 200", x.write(97), ClueParts.FULL);
        Check.due("write(31) beyond 200", x.write(31), ClueParts.BAD);
        Check.due("count(4)", x.count(4), 200);
        Check.due("fault()", x.fault(), 0);
        Check.due("clue()", x.clue(), ClueParts.NO);
        Check.due("answer()", x.answer(), ClueParts.NO);
        Check.due("wipe()", x.wipe(), 200);
        Check.due("write(97)", x.write(97), 1);
    }

    private static void fault(String text, int want) {
        ClueParts x = new ClueParts();
        Check.text(x, text);
        Check.due("fault() of " + text, x.fault(), want);
        Check.due("count(4) after fault() of " + text, x.count(4), text.length());
        int added = x.learn();
        Check.due("learn() of " + text + " is NO", added == ClueParts.NO ? 1 : 0, want == ClueParts.NONE ? 0 : 1);
        Check.due("count(0) after learn() of " + text, x.count(0), 14 + Math.max(0, added));
    }

    private static void faults() {
        int none = ClueParts.NONE;
        fault("", none);
        fault("a=b;", none);
        fault("abcdefg=abcdefgh;", none);
        fault("abcdefgh=a;", 0);
        fault("abcdefgh/R;", 0);
        fault("a=abcdefghi;", 0);
        fault("a=;", 0);
        fault("=a;", 0);
        fault("/R;", 0);
        fault("a/;", 0);
        fault("a/RR;", 0);
        fault("a/r;", 0);
        fault("a/X;", 0);
        fault("A=b;", 0);
        fault("a=B;", 0);
        fault("a=b", 0);
        fault("a=", 0);
        fault("a", 0);
        fault("a/R", 0);
        fault("a;", 0);
        fault(";", 0);
        fault(" ", 0);
        fault("a=b; ", 4);
        fault("a=b;;", 4);
        fault(" a=b;", 0);
        fault("a=b; c=d;", 4);
        fault("a=b;c=d", 4);
        fault("a=b;c/R;d/=;e=f;", 8);
        fault("a=b;c/R;d=e/R;e=f;", 8);
        fault("a-=b;", 0);
        fault("a=b:", 0);
        fault("a{=b;", 0);
        fault("a`=b;", 0);
        for (int i = 0; i < 26; i++) {
            char sign = (char) ('A' + i);
            fault("a=a;w/" + sign + ";", "RACNHBTIL".indexOf(sign) >= 0 ? none : 4);
        }
        fault("a=b;".repeat(50), none);
        fault("a=b;".repeat(49).concat("a=b."), 196);
    }

    private static void clue(String text, int want) {
        ClueParts x = new ClueParts();
        Check.clue(x, text, want);
        Check.due("count(4) after clue() of " + text, x.count(4), text.length());
        String[] words = (want < 0 ? "pest back sailor" : text).split(" ");
        Check.due("count(1) after clue() of " + text, x.count(1), words.length);
        for (int w = 0; w < words.length; w++) {
            Check.due(text + ": clueLetter(" + w + ", -1)", x.clueLetter(w, -1), words[w].length());
            for (int i = 0; i < words[w].length(); i++) {
                Check.due(text + ": clueLetter(" + w + ", " + i + ")", x.clueLetter(w, i), words[w].charAt(i));
            }
        }
        Check.due(text + ": clueLetter(the number of words, 0)", x.clueLetter(words.length, 0), ClueParts.BAD);
    }

    private static void clues() {
        int no = ClueParts.NO;
        clue("a b", 2);
        clue("a b c d e f", 6);
        clue("abcdefg hijklmn opqrstu vwxyzab cdefghi jklmnop", 6);
        clue("a b c d e f g", no);
        clue("word", no);
        clue("", no);
        clue(" ", no);
        clue(" a b", no);
        clue("a b ", no);
        clue("a  b", no);
        clue("abcdefgh b", no);
        clue("a abcdefgh", no);
        clue("a B", no);
        clue("a b.", no);
        clue("a-b c", no);
        clue("a b c d e f ", no);
        clue("pest back sailor pest", 4);
    }

    private static void answer(String text, int want) {
        ClueParts x = new ClueParts();
        Check.answer(x, text, want);
        Check.due("count(4) after answer() of " + text, x.count(4), text.length());
        String letters = want < 0 ? "tar" : text;
        Check.due("count(2) after answer() of " + text, x.count(2), letters.length());
        for (int i = 0; i < letters.length(); i++) {
            Check.due(text + ": answerLetter(" + i + ")", x.answerLetter(i), letters.charAt(i));
        }
        Check.due(text + ": answerLetter(the length)", x.answerLetter(letters.length()), ClueParts.NONE);
    }

    private static void answers() {
        int no = ClueParts.NO;
        answer("ab", 2);
        answer("az", 2);
        answer("abcdefgh", 8);
        answer("zyxwvuts", 8);
        answer("a", no);
        answer("abcdefghi", no);
        answer("", no);
        answer("a b", no);
        answer(" ab", no);
        answer("ab ", no);
        answer("aB", no);
        answer("a`", no);
        answer("a{", no);
        answer("ab;", no);
    }
}
