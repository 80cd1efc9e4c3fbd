/** The three examples of the document, call by call. */
public final class ExamplesTest {
    public static void main(String[] args) {
        clueAtFirst();
        anotherClue();
        faultsAndRefusals();
        Check.end();
    }

    private static void clueAtFirst() {
        ClueParts x = new ClueParts();
        Check.due("1: parses()", x.parses(), 1);
        Check.due("1: cost()", x.cost(), 2);
        Check.due("1: first(-1)", x.first(-1), 14);
        Check.due("1: first(0)", x.first(0), 62);
        Check.due("1: units(0, 2, 0, 3)", x.units(0, 2, 0, 3), 1);
        Check.due("1: pieceCost(0, 1, 0, 3)", x.pieceCost(0, 1, 0, 3), -4);
        Check.due("1: without(1)", x.without(1), 0);
        Check.due("1: count(5)", x.count(5), 3);
        Check.due("1: weigh(2, 5)", x.weigh(2, 5), 1);
        Check.due("1: cost()", x.cost(), 6);
        Check.due("1: offer(-1)", x.offer(-1), 2);
        Check.due("1: offer(0)", x.offer(0), 0);
        Check.due("1: sign(1, 2)", x.sign(1, 2), 1);
        Check.due("1: entry(5, 3)", x.entry(5, 3), 82);
        Check.due("1: forget(0)", x.forget(0), 13);
        Check.due("1: parses()", x.parses(), 0);
    }

    private static void anotherClue() {
        ClueParts x = new ClueParts();
        int[] letters = {115, 117, 110, 32, 98, 97, 99, 107};
        for (int i = 0; i < letters.length; i++) {
            Check.due("2: write(" + letters[i] + ")", x.write(letters[i]), i + 1);
        }
        Check.due("2: clue()", x.clue(), 2);
        Check.due("2: parses()", x.parses(), 0);
        Check.due("2: fault()", x.fault(), 0);
        Check.due("2: learn()", x.learn(), -2);
        Check.due("2: wipe()", x.wipe(), 8);
        Check.due("2: answer()", x.answer(), -2);
        Check.due("2: clueLetter(1, -1)", x.clueLetter(1, -1), 4);
        Check.due("2: pieces(0, 2, 0, 1)", x.pieces(0, 2, 0, 1), 0);
    }

    private static void faultsAndRefusals() {
        ClueParts x = new ClueParts();
        int[] letters = {97, 61, 98, 59, 99, 47, 88, 59};
        for (int i = 0; i < letters.length; i++) {
            Check.due("3: write(" + letters[i] + ")", x.write(letters[i]), i + 1);
        }
        Check.due("3: fault()", x.fault(), 4);
        Check.due("3: learn()", x.learn(), -2);
        Check.due("3: clue()", x.clue(), -2);
        Check.due("3: entryLetter(1, 1, 3)", x.entryLetter(1, 1, 3), -4);
        Check.due("3: take(0)", x.take(0), -2);
        Check.due("3: ifOffer(1, 0)", x.ifOffer(1, 0), 1);
        Check.due("3: units(0, 4, 0, 1)", x.units(0, 4, 0, 1), -1);
        Check.due("3: first(-2)", x.first(-2), -1);
    }
}
