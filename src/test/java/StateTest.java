/** Promises 1 (a new object), 9 weigh, 12 clueLetter, 13 answerLetter, 26 count. */
public final class StateTest {
    public static void main(String[] args) {
        newObject();
        weights();
        letters();
        counts();
        twoObjects();
        refusedCallsChangeNothing();
        Check.end();
    }

    private static void newObject() {
        ClueParts x = new ClueParts();
        Check.due("wipe() of a new object", x.wipe(), 0);
        int[] counts = {14, 3, 3, 2, 0, 3, 5};
        for (int what = 0; what < counts.length; what++) {
            Check.due("count(" + what + ") of a new object", x.count(what), counts[what]);
        }
        Check.due("line of a new object", Check.line(x), ">sailor=R(rat)");
        Check.due("cost() of a new object", x.cost(), 2);
        int[] weights = {1, 3, 1, 2, 1, 1, 2, 2, 2, 2, 0};
        for (int sort = 0; sort < weights.length; sort++) {
            Check.due("weigh(" + sort + ", its first weight)", x.weigh(sort, weights[sort]), ClueParts.NO);
        }
    }

    private static void weights() {
        ClueParts x = new ClueParts();
        int[] weights = {1, 3, 1, 2, 1, 1, 2, 2, 2, 2, 0};
        for (int sort = 0; sort < weights.length; sort++) {
            Check.due("weigh(" + sort + ", -1)", x.weigh(sort, -1), ClueParts.BAD);
            Check.due("weigh(" + sort + ", 10)", x.weigh(sort, 10), ClueParts.BAD);
            Check.due("weigh(" + sort + ", 9)", x.weigh(sort, 9), weights[sort]);
            Check.due("weigh(" + sort + ", 9) twice", x.weigh(sort, 9), ClueParts.NO);
        }
        Check.due("cost() of weights 9", x.cost(), 18);
        for (int sort = 0; sort < weights.length; sort++) {
            Check.due("weigh(" + sort + ", 0)", x.weigh(sort, 0), 9);
        }
        Check.due("cost() of weights 0", x.cost(), 0);
        Check.due("pieceCost() of weights 0", x.pieceCost(0, 2, 0, 3), 0);
        int[] wrong = {-1, 11, Integer.MIN_VALUE, Integer.MAX_VALUE};
        for (int sort : wrong) {
            Check.due("weigh(" + sort + ", 0)", x.weigh(sort, 0), ClueParts.BAD);
        }
        Check.due("weigh(0, least number)", x.weigh(0, Integer.MIN_VALUE), ClueParts.BAD);
        Check.due("weigh(0, greatest number)", x.weigh(0, Integer.MAX_VALUE), ClueParts.BAD);
    }

    private static void letters() {
        ClueParts x = new ClueParts();
        String[] words = {"pest", "back", "sailor"};
        for (int w = 0; w < 3; w++) {
            Check.due("clueLetter(" + w + ", -1)", x.clueLetter(w, -1), words[w].length());
            for (int i = 0; i < words[w].length(); i++) {
                Check.due("clueLetter(" + w + ", " + i + ")", x.clueLetter(w, i), words[w].charAt(i));
            }
            Check.due("clueLetter(" + w + ", length)", x.clueLetter(w, words[w].length()), ClueParts.NONE);
            Check.due("clueLetter(" + w + ", 12)", x.clueLetter(w, 12), ClueParts.NONE);
            Check.due("clueLetter(" + w + ", most)", x.clueLetter(w, Integer.MAX_VALUE), ClueParts.NONE);
            Check.due("clueLetter(" + w + ", -2)", x.clueLetter(w, -2), ClueParts.BAD);
            Check.due("clueLetter(" + w + ", least)", x.clueLetter(w, Integer.MIN_VALUE), ClueParts.BAD);
        }
        int[] noWord = {-1, 3, 6, 7, Integer.MIN_VALUE, Integer.MAX_VALUE};
        for (int w : noWord) {
            Check.due("clueLetter(" + w + ", -1)", x.clueLetter(w, -1), ClueParts.BAD);
            Check.due("clueLetter(" + w + ", 0)", x.clueLetter(w, 0), ClueParts.BAD);
        }
        for (int i = 0; i < 3; i++) {
            Check.due("answerLetter(" + i + ")", x.answerLetter(i), "tar".charAt(i));
        }
        int[] beyond = {3, 8, 12, 13, 64, Integer.MAX_VALUE};
        for (int i : beyond) {
            Check.due("answerLetter(" + i + ")", x.answerLetter(i), ClueParts.NONE);
        }
        Check.due("answerLetter(-1)", x.answerLetter(-1), ClueParts.BAD);
        Check.due("answerLetter(least)", x.answerLetter(Integer.MIN_VALUE), ClueParts.BAD);
    }

    private static void counts() {
        ClueParts x = new ClueParts();
        int[] wrong = {-1, 7, Integer.MIN_VALUE, Integer.MAX_VALUE};
        for (int what : wrong) {
            Check.due("count(" + what + ")", x.count(what), ClueParts.BAD);
        }
        Check.clue(x, "flower stare broken x", 4);
        Check.answer(x, "aster", 5);
        Check.learn(x, "x=x;x=xy;x/L;", 3);
        int[] counts = {17, 4, 5, 2, 13, 0, 7};
        for (int what = 0; what < counts.length; what++) {
            Check.due("count(" + what + ")", x.count(what), counts[what]);
        }
        Check.clue(x, "flower stare broken", 3);
        Check.due("count(5): flower and broken are needed", x.count(5), 2);
        Check.learn(x, "stare=aster;flower/A;", 2);
        Check.due("parses()", x.parses(), 1);
        Check.due("count(5)", x.count(5), 2);
    }

    private static void twoObjects() {
        ClueParts x = new ClueParts();
        ClueParts y = new ClueParts();
        x.weigh(2, 9);
        x.forget(1);
        x.write(97);
        Check.clue(x, "x y", 2);
        Check.answer(x, "xy", 2);
        Check.due("another object's parses()", y.parses(), 1);
        Check.due("another object's cost()", y.cost(), 2);
        Check.due("another object's count(4)", y.count(4), 0);
        Check.due("another object's count(0)", y.count(0), 14);
        Check.due("a new object's weigh(2, 9)", new ClueParts().weigh(2, 9), 1);
    }

    private static void refusedCallsChangeNothing() {
        ClueParts x = new ClueParts();
        Check.text(x, "A");
        x.clue();
        x.answer();
        x.learn();
        x.forget(14);
        x.weigh(11, 1);
        x.weigh(2, 10);
        x.take(2);
        x.take(0);
        x.write(127);
        x.ifOffer(2, 0);
        x.without(14);
        Check.due("line after refused calls", Check.line(x), ">sailor=R(rat)");
        int[] counts = {14, 3, 3, 2, 1, 3, 5};
        for (int what = 0; what < counts.length; what++) {
            Check.due("count(" + what + ") after refused calls", x.count(what), counts[what]);
        }
    }
}
