/** What the tests share: an object under test that is told calls, and the count of wrong answers. */
final class Check {
    private static int wrong;
    private static int asked;

    private Check() {
    }

    static void due(String call, long got, long want) {
        asked++;
        if (got != want) {
            wrong++;
            System.out.println(call + " answered " + got + ", due is " + want);
        }
    }

    static void due(String call, String got, String want) {
        asked++;
        if (!got.equals(want)) {
            wrong++;
            System.out.println(call + " answered " + got + ", due is " + want);
        }
    }

    static void text(ClueParts x, String text) {
        x.wipe();
        for (int i = 0; i < text.length(); i++) {
            due("write(" + (int) text.charAt(i) + ") of " + text, x.write(text.charAt(i)), i + 1);
        }
    }

    static void forgetAll(ClueParts x) {
        for (int left = x.count(0); left > 0; left--) {
            due("forget(0)", x.forget(0), left - 1);
        }
    }

    static void learn(ClueParts x, String text, int want) {
        text(x, text);
        due("learn() of " + text, x.learn(), want);
    }

    static void clue(ClueParts x, String text, int want) {
        text(x, text);
        due("clue() of " + text, x.clue(), want);
    }

    static void answer(ClueParts x, String text, int want) {
        text(x, text);
        due("answer() of " + text, x.answer(), want);
    }

    /** A new object with nothing but this book, clue and answer. */
    static ClueParts made(String book, String clue, String answer) {
        ClueParts x = new ClueParts();
        forgetAll(x);
        text(x, book);
        due("fault() of " + book, x.fault(), ClueParts.NONE);
        due("learn() of " + book, x.learn() >= 0 ? 1 : 0, 1);
        clue(x, clue, clue.split(" ").length);
        answer(x, answer, answer.length());
        return x;
    }

    /** The line of the best parse, or nothing if there is none; the answers beyond its ends are looked at too. */
    static String line(ClueParts x) {
        int length = x.first(-1);
        due("first(-2)", x.first(-2), ClueParts.BAD);
        due("first(the length)", x.first(Math.max(length, 0)), ClueParts.NONE);
        due("first(the greatest number)", x.first(Integer.MAX_VALUE), ClueParts.NONE);
        StringBuilder line = new StringBuilder();
        for (int i = 0; i < length; i++) {
            line.append((char) x.first(i));
        }
        return line.toString();
    }

    static void end() {
        System.out.println(asked + " answers, " + wrong + " of them wrong");
        if (wrong != 0) {
            System.exit(1);
        }
    }
}
