import java.util.ArrayList;
import java.util.Comparator;
import java.util.HashSet;
import java.util.LinkedHashSet;
import java.util.List;
import java.util.Set;

/**
 * The document's rules a second time, in another way: it makes every unit and every piece of the clue as an object, from
 * the words to the letters, and compares them by the document's order. Slow, and only for tests.
 */
final class Oracle {
    record Entry(String word, String letters, char sign) {
        boolean stands() {
            return letters != null;
        }
    }

    /** One unit; inner and outer only for C and N, before only for R. */
    record Unit(int from, int to, String letters, int sort, int indicator, int place, Piece before, Piece after,
            int cost, String text) {
    }

    record Piece(List<Unit> units, String letters, int cost, String text) {
    }

    record Parse(boolean first, boolean linked, Piece piece, int cost, String text) {
    }

    static final String SIGNS = "RACNHBTIL";

    final List<Entry> book;
    final List<String> words;
    final String answer;
    final int[] weights;
    private final Set<String> spellable = new HashSet<>();
    private final List<List<Unit>> units = new ArrayList<>();
    private final List<List<Piece>> pieces = new ArrayList<>();
    /** More objects than this are not made: the case is given up. */
    private static final int TOO_MANY = 400000;
    private int made;
    boolean givenUp;

    Oracle(List<Entry> book, List<String> words, String answer, int[] weights) {
        this.book = book;
        this.words = words;
        this.answer = answer;
        this.weights = weights;
        for (int set = 1; set < 1 << answer.length(); set++) {
            StringBuilder chosen = new StringBuilder();
            for (int i = 0; i < answer.length(); i++) {
                if ((set >> i & 1) == 1) {
                    chosen.append(answer.charAt(i));
                }
            }
            spellable.add(chosen.toString());
            spellable.add(chosen.reverse().toString());
        }
        for (int i = 0; i < 49; i++) {
            units.add(null);
            pieces.add(null);
        }
    }

    boolean marked(int w, char sign) {
        for (Entry e : book) {
            if (!e.stands() && e.sign() == sign && e.word().equals(words.get(w))) {
                return true;
            }
        }
        return false;
    }

    boolean says(String word, String letters) {
        for (Entry e : book) {
            if (e.stands() && e.word().equals(word) && e.letters().equals(letters)) {
                return true;
            }
        }
        return false;
    }

    private String joined(int i, int j) {
        return String.join("", words.subList(i, j));
    }

    private static String sorted(String s) {
        char[] c = s.toCharArray();
        java.util.Arrays.sort(c);
        return new String(c);
    }

    List<Piece> pieces(int i, int j) {
        List<Piece> known = pieces.get(i * 7 + j);
        if (known != null) {
            return known;
        }
        List<Piece> all = new ArrayList<>();
        for (Unit u : units(i, j)) {
            all.add(new Piece(List.of(u), u.letters(), u.cost(), u.text()));
        }
        for (int k = i + 1; k < j; k++) {
            for (Unit u : units(i, k)) {
                for (Piece rest : pieces(k, j)) {
                    String letters = u.letters() + rest.letters();
                    if (spellable.contains(letters) && !tooMany()) {
                        List<Unit> list = new ArrayList<>();
                        list.add(u);
                        list.addAll(rest.units());
                        all.add(new Piece(list, letters, u.cost() + rest.cost(), u.text() + "+" + rest.text()));
                    }
                }
            }
        }
        pieces.set(i * 7 + j, all);
        return all;
    }

    private boolean tooMany() {
        made++;
        if (made > TOO_MANY) {
            givenUp = true;
        }
        return givenUp;
    }

    private void add(List<Unit> all, Unit u) {
        if (!u.letters().isEmpty() && spellable.contains(u.letters()) && !tooMany()) {
            all.add(u);
        }
    }

    List<Unit> units(int i, int j) {
        List<Unit> known = units.get(i * 7 + j);
        if (known != null) {
            return known;
        }
        List<Unit> all = new ArrayList<>();
        if (j - i == 1) {
            addSingles(all, i);
        } else {
            addReversals(all, i, j);
            addAnagrams(all, i, j);
            addContainers(all, i, j);
            addFirstIndicators(all, i, j);
        }
        units.set(i * 7 + j, all);
        return all;
    }

    private void addSingles(List<Unit> all, int w) {
        String word = words.get(w);
        for (Entry e : book) {
            if (e.stands() && e.word().equals(word)) {
                add(all, new Unit(w, w + 1, e.letters(), 0, -1, 0, null, null, weights[0], e.letters()));
            }
        }
        add(all, new Unit(w, w + 1, word, 1, -1, 0, null, null, weights[1], "'" + word));
    }

    private void addReversals(List<Unit> all, int i, int j) {
        for (int side = 0; side < 2; side++) {
            int indicator = side == 0 ? i : j - 1;
            if (!marked(indicator, 'R')) {
                continue;
            }
            for (Piece p : side == 0 ? pieces(i + 1, j) : pieces(i, j - 1)) {
                if (p.letters().length() > 1) {
                    String letters = new StringBuilder(p.letters()).reverse().toString();
                    add(all, new Unit(i, j, letters, 2, indicator, 0, p, null, weights[2] + p.cost(),
                            "R(" + p.text() + ")"));
                }
            }
        }
    }

    private void addAnagrams(List<Unit> all, int i, int j) {
        for (int side = 0; side < 2; side++) {
            int indicator = side == 0 ? i : j - 1;
            String others = side == 0 ? joined(i + 1, j) : joined(i, j - 1);
            if (marked(indicator, 'A')) {
                for (String letters : spellable) {
                    if (!letters.equals(others) && sorted(letters).equals(sorted(others))) {
                        add(all, new Unit(i, j, letters, 3, indicator, 0, null, null, weights[3],
                                "A(" + others + ")"));
                    }
                }
            }
        }
    }

    private void addContainers(List<Unit> all, int i, int j) {
        for (int k = i + 1; k < j - 1; k++) {
            for (int sort = 4; sort <= 5; sort++) {
                if (!marked(k, sort == 4 ? 'C' : 'N')) {
                    continue;
                }
                for (Piece before : pieces(i, k)) {
                    for (Piece after : pieces(k + 1, j)) {
                        Piece outer = sort == 4 ? before : after;
                        Piece inner = sort == 4 ? after : before;
                        for (int place = 1; place < outer.letters().length(); place++) {
                            String letters = outer.letters().substring(0, place) + inner.letters()
                                    + outer.letters().substring(place);
                            add(all, new Unit(i, j, letters, sort, k, place, before, after,
                                    weights[sort] + before.cost() + after.cost(),
                                    (sort == 4 ? "C(" : "N(") + before.text() + ")(" + after.text() + ")"));
                        }
                    }
                }
            }
        }
    }

    private void addFirstIndicators(List<Unit> all, int i, int j) {
        String others = joined(i + 1, j);
        if (marked(i, 'H') && j - i >= 3) {
            int lastStart = others.length() - words.get(j - 1).length();
            for (int from = 1; from < words.get(i + 1).length(); from++) {
                for (int to = lastStart + 1; to < others.length(); to++) {
                    add(all, new Unit(i, j, others.substring(from, to), 6, i, from, null, null, weights[6],
                            "H(" + others + ")"));
                }
            }
        }
        for (int sort = 7; sort <= 8; sort++) {
            if (marked(i, SIGNS.charAt(sort - 2)) && j - i == 2) {
                addShortened(all, i, sort);
            }
        }
        if (marked(i, 'I')) {
            StringBuilder letters = new StringBuilder();
            for (int w = i + 1; w < j; w++) {
                letters.append(words.get(w).charAt(0));
            }
            add(all, new Unit(i, j, letters.toString(), 9, i, 0, null, null, weights[9], "I(" + others + ")"));
        }
    }

    private void addShortened(List<Unit> all, int i, int sort) {
        String word = words.get(i + 1);
        String sign = sort == 7 ? "B(" : "T(";
        add(all, new Unit(i, i + 2, shortened(sort, word), sort, i, -1, null, null, weights[sort] + weights[1],
                sign + "'" + word + ")"));
        for (int e = 0; e < book.size(); e++) {
            Entry entry = book.get(e);
            if (entry.stands() && entry.word().equals(word)) {
                add(all, new Unit(i, i + 2, shortened(sort, entry.letters()), sort, i, e, null, null,
                        weights[sort] + weights[0], sign + entry.letters() + ")"));
            }
        }
    }

    private static String shortened(int sort, String letters) {
        return sort == 7 ? letters.substring(1) : letters.substring(0, letters.length() - 1);
    }

    static final Comparator<Piece> ORDER = Oracle::compare;

    private static int compare(Piece p, Piece q) {
        for (int i = 0; i < Math.min(p.units().size(), q.units().size()); i++) {
            int order = compare(p.units().get(i), q.units().get(i));
            if (order != 0) {
                return order;
            }
        }
        return Integer.compare(p.units().size(), q.units().size());
    }

    private static int compare(Unit u, Unit v) {
        int order = Integer.compare(u.to() - u.from(), v.to() - v.from());
        order = order != 0 ? order : Integer.compare(u.letters().length(), v.letters().length());
        order = order != 0 ? order : Integer.compare(u.sort(), v.sort());
        order = order != 0 ? order : Integer.compare(u.indicator(), v.indicator());
        order = order != 0 ? order : Integer.compare(u.place(), v.place());
        if (order != 0 || u.before() == null) {
            return order;
        }
        if (u.after() != null) {
            Piece inner = u.sort() == 4 ? u.after() : u.before();
            Piece other = u.sort() == 4 ? v.after() : v.before();
            order = Integer.compare(inner.letters().length(), other.letters().length());
        }
        order = order != 0 ? order : compare(u.before(), v.before());
        return order != 0 || u.after() == null ? order : compare(u.after(), v.after());
    }

    List<Parse> parses() {
        List<Parse> all = new ArrayList<>();
        int n = words.size();
        for (int side = 0; side < 2; side++) {
            boolean first = side == 0;
            String definition = words.get(first ? 0 : n - 1);
            if (!says(definition, answer)) {
                continue;
            }
            String head = (first ? "<" : ">") + definition;
            for (Piece p : first ? pieces(1, n) : pieces(0, n - 1)) {
                if (p.letters().equals(answer)) {
                    all.add(new Parse(first, false, p, p.cost(), head + "=" + p.text()));
                }
            }
            if (n > 2 && marked(first ? 1 : n - 2, 'L')) {
                for (Piece p : first ? pieces(2, n) : pieces(0, n - 2)) {
                    if (p.letters().equals(answer)) {
                        all.add(new Parse(first, true, p, p.cost() + weights[10], head + "-=" + p.text()));
                    }
                }
            }
        }
        all.sort(Comparator.comparingInt(Parse::cost).thenComparing(p -> p.first() ? 0 : 1)
                .thenComparing(p -> p.linked() ? 1 : 0).thenComparing(Parse::piece, ORDER));
        return all;
    }

    /** The offers, as entries. */
    List<Integer> offers() {
        Set<String> seen = new LinkedHashSet<>();
        List<Integer> found = new ArrayList<>();
        for (int e = 0; e < book.size(); e++) {
            Entry entry = book.get(e);
            boolean edge = entry.word().equals(words.get(0)) || entry.word().equals(words.get(words.size() - 1));
            if (entry.stands() && edge && entry.letters().length() > 1 && seen.add(entry.letters())) {
                found.add(e);
            }
        }
        return found;
    }

    Oracle lacking(int e) {
        List<Entry> smaller = new ArrayList<>(book);
        smaller.remove(e);
        return new Oracle(smaller, words, answer, weights);
    }

    Oracle answering(String other) {
        return new Oracle(book, words, other, weights);
    }
}
