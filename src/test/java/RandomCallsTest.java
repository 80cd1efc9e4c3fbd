import java.util.Random;

/** Random runs of calls, with good and wrong arguments, on an object and on the model (all promises). */
public final class RandomCallsTest {
    private static final String[] WORDS = {"sailor", "pest", "ship", "flower", "star", "back", "broken", "in", "around",
        "some", "later", "short", "first", "for", "tar", "rat", "a", "s", "t", "sun"};
    private static final int[] EXTREMES = {Integer.MIN_VALUE, -1000, -2, -1, 200, 1000, Integer.MAX_VALUE};
    /** No change takes more calls than this: six entries of 6 and 12 letters, written, looked at and learned. */
    private static final int LONGEST = 130;

    private final Random random;
    private final ClueParts x = new ClueParts();
    private final Model model = new Model();
    private int calls;

    private RandomCallsTest(Random random) {
        this.random = random;
    }

    public static void main(String[] args) {
        int runs = args.length > 0 ? Integer.parseInt(args[0]) : 150;
        int seed = args.length > 1 ? Integer.parseInt(args[1]) : 1;
        Random random = new Random(seed);
        for (int i = 0; i < runs; i++) {
            new RandomCallsTest(random).run();
        }
        Check.end();
    }

    private void due(String call, int got, int want) {
        calls++;
        Check.due("call " + calls + ": " + call, got, want);
    }

    private int number(int most) {
        return random.nextInt(12) == 0 ? EXTREMES[random.nextInt(EXTREMES.length)] : random.nextInt(most + 2) - 1;
    }

    private String word() {
        return WORDS[random.nextInt(WORDS.length)];
    }

    private void run() {
        while (calls + LONGEST < Call.MOST) {
            if (random.nextInt(12) == 0) {
                change();
            } else {
                ask();
            }
        }
    }

    private void text(String text) {
        due("wipe()", x.wipe(), model.wipe());
        for (char c : text.toCharArray()) {
            due("write(" + (int) c + ")", x.write(c), model.write(c));
        }
        if (random.nextInt(8) == 0) {
            int letter = random.nextBoolean() ? 32 + random.nextInt(95) : number(130);
            due("write(" + letter + ")", x.write(letter), model.write(letter));
        }
    }

    private String joined(int least, int more, String between) {
        StringBuilder s = new StringBuilder(word());
        int n = least + random.nextInt(more + 1);
        for (int i = 1; i < n; i++) {
            s.append(between).append(word());
        }
        return s.toString();
    }

    private void change() {
        switch (random.nextInt(6)) {
            case 0 -> {
                text(joined(random.nextInt(10) == 0 ? 1 : 2, 5, random.nextInt(20) == 0 ? "  " : " "));
                due("clue()", x.clue(), model.clue());
            }
            case 1 -> {
                text(joined(1, 1, random.nextInt(20) == 0 ? " " : ""));
                due("answer()", x.answer(), model.answer());
            }
            case 2 -> {
                StringBuilder s = new StringBuilder();
                for (int i = random.nextInt(6); i >= 0; i--) {
                    s.append(word()).append(random.nextBoolean() ? "/" + "RACNHBTIL".charAt(random.nextInt(9))
                            : "=" + joined(1, 1, "")).append(random.nextInt(30) == 0 ? "" : ";");
                }
                text(s.toString());
                due("fault()", x.fault(), model.fault());
                due("learn()", x.learn(), model.learn());
            }
            case 3 -> {
                int e = number(24);
                due("forget(" + e + ")", x.forget(e), model.forget(e));
            }
            case 4 -> {
                int sort = number(11);
                int w = number(10);
                due("weigh(" + sort + ", " + w + ")", x.weigh(sort, w), model.weigh(sort, w));
            }
            default -> {
                int i = number(4);
                due("take(" + i + ")", x.take(i), model.take(i));
            }
        }
    }

    private void ask() {
        if (random.nextBoolean()) {
            askState();
        } else if (!model.givenUp()) {
            askParses();
        } else {
            change();
        }
    }

    private void askState() {
        int a = number(24);
        int b = number(4);
        int c = number(8);
        switch (random.nextInt(9)) {
            case 0 -> due("fault()", x.fault(), model.fault());
            case 1 -> due("entry(" + a + ", " + b + ")", x.entry(a, b), model.entry(a, b));
            case 2 -> due("entryLetter(" + a + ", " + b + ", " + c + ")", x.entryLetter(a, b, c),
                    model.entryLetter(a, b, c));
            case 3 -> due("clueLetter(" + b + ", " + c + ")", x.clueLetter(b, c), model.clueLetter(b, c));
            case 4 -> due("answerLetter(" + c + ")", x.answerLetter(c), model.answerLetter(c));
            case 5 -> due("sign(" + b + ", " + c + ")", x.sign(b, c), model.sign(b, c));
            case 6 -> due("offer(" + b + ")", x.offer(b), model.offer(b));
            case 7 -> {
                int[] refused = {31, 127, -5};
                int letter = refused[random.nextInt(3)];
                due("write(" + letter + ")", x.write(letter), model.write(letter));
            }
            default -> due("count(" + c + ")", x.count(c), model.count(c));
        }
    }

    private void askParses() {
        int i = number(6);
        int j = number(6);
        int a = number(6);
        int b = number(6);
        String span = "(" + i + ", " + j + ", " + a + ", " + b + ")";
        switch (random.nextInt(11)) {
            case 0 -> due("parses()", x.parses(), model.parses());
            case 1 -> due("cost()", x.cost(), model.cost());
            case 2, 3 -> {
                int k = number(25);
                due("first(" + k + ")", x.first(k), model.first(k));
            }
            case 4 -> due("pieces" + span, x.pieces(i, j, a, b), model.span(0, i, j, a, b));
            case 5 -> due("pieceCost" + span, x.pieceCost(i, j, a, b), model.span(1, i, j, a, b));
            case 6 -> due("units" + span, x.units(i, j, a, b), model.span(2, i, j, a, b));
            case 7 -> due("cheapest()", x.cheapest(), model.cheapest());
            case 8 -> due("ifOffer(" + i + ", " + (a & 1) + ")", x.ifOffer(i, a & 1), model.ifOffer(i, a & 1));
            case 9 -> {
                int e = number(24);
                due("without(" + e + ")", x.without(e), model.without(e));
            }
            default -> due("count(5)", x.count(5), model.count(5));
        }
    }
}
