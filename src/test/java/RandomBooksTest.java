import java.util.ArrayList;
import java.util.List;
import java.util.Random;

/** Random books, clues, answers and weights, answered by the class and by the oracle (promises 14 to 26). */
public final class RandomBooksTest {
    private static final String[][] VOCABULARIES = {
        {"a", "b", "ab", "ba"},
        {"a", "ab", "ba", "aab", "bab", "abba"},
        {"a", "aa", "aaa"},
        {"a"},
        {"abc", "cab", "b", "ca", "bac", "c", "abca"},
        {"tar", "rat", "art", "star", "rats", "a", "in", "back"},
    };

    private static int parsesSeen;
    private static int linesSeen;
    private static int givenUp;

    public static void main(String[] args) {
        int cases = args.length > 0 ? Integer.parseInt(args[0]) : 2500;
        int seed = args.length > 1 ? Integer.parseInt(args[1]) : 1;
        Random random = new Random(seed);
        for (int c = 0; c < cases; c++) {
            compare(random);
        }
        System.out.println(cases + " cases, " + givenUp + " given up, " + linesSeen + " with a parse, " + parsesSeen
                + " parses");
        Check.due("enough cases with a parse", linesSeen > cases / 8 ? 1 : 0, 1);
        Check.end();
    }

    private static void compare(Random random) {
        String[] vocabulary = VOCABULARIES[random.nextInt(VOCABULARIES.length)];
        List<String> words = new ArrayList<>();
        int n = 2 + random.nextInt(5);
        for (int w = 0; w < n; w++) {
            words.add(vocabulary[random.nextInt(vocabulary.length)]);
        }
        String answer = random(random, vocabulary, 2, random.nextInt(4) == 0 ? 8 : 5);
        List<Oracle.Entry> book = randomBook(random, vocabulary, words, answer);
        int[] weights = randomWeights(random);
        Oracle oracle = new Oracle(book, words, answer, weights);
        List<Oracle.Parse> parses = oracle.parses();
        oracle.pieces(0, n);
        if (oracle.givenUp) {
            givenUp++;
            return;
        }
        parsesSeen += parses.size();
        linesSeen += parses.isEmpty() ? 0 : 1;
        String name = book + " " + words + " " + answer + " ";
        compareParses(name, made(oracle), oracle, parses);
        comparePieces(name, oracle);
        ClueParts x = made(oracle);
        compareOffers(name, x, oracle);
        compareNeeds(name, x, oracle, parses.size());
        // Once more, because offers and needs ask about other answers and books in between.
        compareBest(name, x, parses);
    }

    private static String random(Random random, String[] vocabulary, int least, int most) {
        while (true) {
            StringBuilder s = new StringBuilder();
            int n = 1 + random.nextInt(4);
            for (int i = 0; i < n; i++) {
                s.append(vocabulary[random.nextInt(vocabulary.length)]);
            }
            if (random.nextBoolean()) {
                s.reverse();
            }
            if (s.length() >= least && s.length() <= most) {
                return s.toString();
            }
        }
    }

    private static List<Oracle.Entry> randomBook(Random random, String[] vocabulary, List<String> words,
            String answer) {
        List<Oracle.Entry> book = new ArrayList<>();
        int size = random.nextInt(25);
        for (int tries = 0; tries < 60 && book.size() < size; tries++) {
            String word = words.get(random.nextInt(words.size()));
            Oracle.Entry e;
            int kind = random.nextInt(10);
            if (kind < 5) {
                e = new Oracle.Entry(word, null, Oracle.SIGNS.charAt(random.nextInt(9)));
            } else if (kind == 5) {
                e = new Oracle.Entry(random.nextBoolean() ? words.get(0) : words.get(words.size() - 1), answer, ' ');
            } else if (kind == 6) {
                int from = random.nextInt(answer.length());
                int to = from + 1 + random.nextInt(answer.length() - from);
                e = new Oracle.Entry(word, answer.substring(from, to), ' ');
            } else {
                e = new Oracle.Entry(word, random(random, vocabulary, 1, 8), ' ');
            }
            if (!book.contains(e)) {
                book.add(e);
            }
        }
        return book;
    }

    private static int[] randomWeights(Random random) {
        int[] weights = {1, 3, 1, 2, 1, 1, 2, 2, 2, 2, 0};
        int changes = random.nextInt(3) * 4;
        for (int i = 0; i < changes; i++) {
            weights[random.nextInt(11)] = random.nextInt(random.nextBoolean() ? 3 : 10);
        }
        return weights;
    }

    /** A new object; it has had at most 300 calls. */
    private static ClueParts made(Oracle oracle) {
        ClueParts x = new ClueParts();
        Check.forgetAll(x);
        StringBuilder text = new StringBuilder();
        int entries = 0;
        for (Oracle.Entry e : oracle.book) {
            String entry = e.word() + (e.stands() ? "=" + e.letters() : "/" + e.sign()) + ";";
            if (text.length() + entry.length() > 200) {
                Check.learn(x, text.toString(), entries);
                text.setLength(0);
                entries = 0;
            }
            text.append(entry);
            entries++;
        }
        Check.learn(x, text.toString(), entries);
        Check.clue(x, String.join(" ", oracle.words), oracle.words.size());
        Check.answer(x, oracle.answer, oracle.answer.length());
        int[] first = {1, 3, 1, 2, 1, 1, 2, 2, 2, 2, 0};
        for (int sort = 0; sort < 11; sort++) {
            Check.due("weigh(" + sort + ")", x.weigh(sort, oracle.weights[sort]),
                    first[sort] == oracle.weights[sort] ? ClueParts.NO : first[sort]);
        }
        return x;
    }

    private static void compareParses(String name, ClueParts x, Oracle oracle, List<Oracle.Parse> parses) {
        compareBest(name, x, parses);
        for (int w = 0; w < oracle.words.size(); w++) {
            for (int sort = 2; sort <= 10; sort++) {
                Check.due(name + "sign(" + w + ", " + sort + ")", x.sign(w, sort),
                        oracle.marked(w, Oracle.SIGNS.charAt(sort - 2)) ? 1 : 0);
            }
        }
    }

    private static void compareBest(String name, ClueParts x, List<Oracle.Parse> parses) {
        Check.due(name + "parses()", x.parses(), parses.size());
        Check.due(name + "cost()", x.cost(), parses.isEmpty() ? ClueParts.NONE : parses.get(0).cost());
        Check.due(name + "line", Check.line(x), parses.isEmpty() ? "" : parses.get(0).text());
        Check.due(name + "first(-1)", x.first(-1), parses.isEmpty() ? ClueParts.NONE : parses.get(0).text().length());
        Check.due(name + "cheapest()", x.cheapest(),
                parses.stream().filter(p -> p.cost() == parses.get(0).cost()).count());
    }

    private static void comparePieces(String name, Oracle oracle) {
        int n = oracle.words.size();
        ClueParts x = made(oracle);
        int asked = 0;
        for (int i = 0; i < n; i++) {
            for (int j = i + 1; j <= n; j++) {
                for (int a = 0; a < oracle.answer.length(); a++) {
                    for (int b = a + 1; b <= oracle.answer.length(); b++) {
                        if (asked > 200) {
                            x = made(oracle);
                            asked = 0;
                        }
                        compareSpan(name, x, oracle, new int[] {i, j, a, b});
                        asked += 3;
                    }
                }
            }
        }
    }

    private static void compareSpan(String name, ClueParts x, Oracle oracle, int[] at) {
        String letters = oracle.answer.substring(at[2], at[3]);
        int number = 0;
        int single = 0;
        int least = Integer.MAX_VALUE;
        for (Oracle.Piece p : oracle.pieces(at[0], at[1])) {
            if (p.letters().equals(letters)) {
                number++;
                single += p.units().size() == 1 ? 1 : 0;
                least = Math.min(least, p.cost());
            }
        }
        String span = name + at[0] + ", " + at[1] + ", " + at[2] + ", " + at[3] + " ";
        Check.due(span + "pieces", x.pieces(at[0], at[1], at[2], at[3]), number);
        Check.due(span + "units", x.units(at[0], at[1], at[2], at[3]), single);
        Check.due(span + "pieceCost", x.pieceCost(at[0], at[1], at[2], at[3]),
                number == 0 ? ClueParts.NONE : least);
    }

    private static void compareOffers(String name, ClueParts x, Oracle oracle) {
        List<Integer> offers = oracle.offers();
        Check.due(name + "offer(-1)", x.offer(-1), offers.size());
        Check.due(name + "count(3)", x.count(3), offers.size());
        for (int i = 0; i < offers.size(); i++) {
            String letters = oracle.book.get(offers.get(i)).letters();
            Oracle other = oracle.answering(letters);
            List<Oracle.Parse> parses = other.parses();
            Check.due(name + "offer(" + i + ")", x.offer(i), offers.get(i));
            if (other.givenUp) {
                continue;
            }
            Check.due(name + "ifOffer(" + i + ", 0)", x.ifOffer(i, 0), parses.size());
            Check.due(name + "ifOffer(" + i + ", 1)", x.ifOffer(i, 1),
                    parses.isEmpty() ? ClueParts.NONE : parses.get(0).cost());
            if (letters.equals(oracle.answer)) {
                Check.due(name + "take(" + i + ")", x.take(i), ClueParts.NO);
            }
        }
        Check.due(name + "offer(too many)", x.offer(offers.size()), ClueParts.NONE);
        Check.due(name + "ifOffer(too many)", x.ifOffer(offers.size(), 0), ClueParts.BAD);
        Check.due(name + "take(too many)", x.take(offers.size()), ClueParts.BAD);
    }

    private static void compareNeeds(String name, ClueParts x, Oracle oracle, int parses) {
        int needed = 0;
        int stands = 0;
        for (int e = 0; e < oracle.book.size(); e++) {
            int left = oracle.lacking(e).parses().size();
            Check.due(name + "without(" + e + ")", x.without(e), left);
            needed += left < parses ? 1 : 0;
            stands += oracle.book.get(e).stands() ? 1 : 0;
        }
        Check.due(name + "count(5)", x.count(5), needed);
        Check.due(name + "count(6)", x.count(6), stands);
        Check.due(name + "count(0)", x.count(0), oracle.book.size());
    }
}
