import java.util.ArrayList;
import java.util.List;

/**
 * Looks at all that calls can show of the state after a run of calls. It makes the run again on a new object whenever
 * the old one has had its 512 calls, or was changed in order to see what it had.
 */
final class Witness {
    /** With these behind it, a text shows by its next readings what it is. */
    private static final String[] ENDINGS = {"", "a", " a", ";", "b;", "=b;", "/R;", "R;"};

    private final List<Call> run;
    private final int room;
    private final List<String> seen = new ArrayList<>();
    private ClueParts x;
    private int asked;

    /** The room is the number of calls that may be asked after each run. */
    Witness(List<Call> run, int room) {
        this.run = run;
        this.room = room;
    }

    /** All that was seen, a call with its answer each. */
    List<String> testimony() {
        renew();
        counts();
        book();
        clueAndAnswer();
        parsesAndOffers();
        spans();
        weights();
        for (String ending : ENDINGS) {
            text(ending);
        }
        return seen;
    }

    private void renew() {
        x = new ClueParts();
        for (Call call : run) {
            call.on(x);
        }
        asked = 0;
    }

    private int ask(String name, int... arguments) {
        if (asked >= room) {
            renew();
        }
        return askOnce(name, arguments);
    }

    private int askOnce(String name, int... arguments) {
        asked++;
        Call call = Call.of(name, arguments);
        int answer = call.on(x);
        seen.add(call + " = " + answer);
        return answer;
    }

    private void counts() {
        for (int what = 0; what <= 6; what++) {
            ask("count", what);
        }
        ask("fault");
        ask("parses");
        ask("cost");
        ask("cheapest");
    }

    private void book() {
        int entries = ask("count", 0);
        for (int e = 0; e < entries; e++) {
            int word = ask("entry", e, 0);
            ask("entry", e, 1);
            int letters = ask("entry", e, 2);
            ask("entry", e, 3);
            for (int i = 0; i < word; i++) {
                ask("entryLetter", e, 0, i);
            }
            for (int i = 0; i < letters; i++) {
                ask("entryLetter", e, 1, i);
            }
            ask("without", e);
        }
    }

    private void clueAndAnswer() {
        int words = ask("count", 1);
        for (int w = 0; w < words; w++) {
            int letters = ask("clueLetter", w, -1);
            for (int i = 0; i < letters; i++) {
                ask("clueLetter", w, i);
            }
            for (int sort = 2; sort <= 10; sort++) {
                ask("sign", w, sort);
            }
        }
        int letters = ask("count", 2);
        for (int i = 0; i < letters; i++) {
            ask("answerLetter", i);
        }
    }

    private void parsesAndOffers() {
        int line = ask("first", -1);
        for (int i = 0; i < line; i++) {
            ask("first", i);
        }
        int offers = ask("offer", -1);
        for (int i = 0; i < offers; i++) {
            ask("offer", i);
            ask("ifOffer", i, 0);
            ask("ifOffer", i, 1);
        }
    }

    private void spans() {
        int words = ask("count", 1);
        int letters = ask("count", 2);
        for (int i = 0; i < words; i++) {
            for (int j = i + 1; j <= words; j++) {
                span(i, j, 0, letters);
                span(i, j, 0, 1);
                span(i, j, 1, letters);
                span(i, j, 0, letters - 1);
            }
        }
    }

    private void span(int i, int j, int a, int b) {
        ask("pieces", i, j, a, b);
        ask("pieceCost", i, j, a, b);
        ask("units", i, j, a, b);
    }

    /** A weight is told by the call that changes it. */
    private void weights() {
        renew();
        for (int sort = 0; sort <= 10 && asked < room; sort++) {
            askOnce("weigh", sort, 0);
        }
    }

    private void text(String ending) {
        renew();
        for (int i = 0; i < ending.length() && asked < room; i++) {
            askOnce("write", ending.charAt(i));
        }
        if (room - asked < 100) {
            return;
        }
        askOnce("fault");
        int added = askOnce("learn");
        int entries = askOnce("count", 0);
        if (added > 0) {
            for (int i = 0; i < 8; i++) {
                askOnce("entryLetter", entries - 1, 0, i);
                askOnce("entryLetter", entries - 1, 1, i);
            }
            askOnce("entry", entries - 1, 3);
        }
        int words = askOnce("clue");
        for (int w = 0; w < words; w++) {
            for (int i = -1; i < 7; i++) {
                askOnce("clueLetter", w, i);
            }
        }
        int letters = askOnce("answer");
        for (int i = 0; i < letters; i++) {
            askOnce("answerLetter", i);
        }
        askOnce("wipe");
    }
}
