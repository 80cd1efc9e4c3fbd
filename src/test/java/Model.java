import java.util.ArrayList;
import java.util.Arrays;
import java.util.List;
import java.util.regex.Matcher;
import java.util.regex.Pattern;

/** The state that the document describes, in plain Java, with the oracle for all that is about parses. */
final class Model {
    private static final Pattern ENTRY = Pattern.compile("([a-z]{1,7})(?:=([a-z]{1,8})|/([RACNHBTIL]));");
    private static final Pattern CLUE = Pattern.compile("[a-z]{1,7}( [a-z]{1,7}){1,5}");
    private static final Pattern ANSWER = Pattern.compile("[a-z]{2,8}");
    static final int BAD = -1, NO = -2, FULL = -3, NONE = -4;

    private final StringBuilder text = new StringBuilder();
    private List<Oracle.Entry> book = new ArrayList<>();
    private List<String> words = List.of("pest", "back", "sailor");
    private String answer = "tar";
    private int[] weights = {1, 3, 1, 2, 1, 1, 2, 2, 2, 2, 0};
    private Oracle oracle;
    private List<Oracle.Parse> parses;

    Model() {
        entries("sailor=tar;pest=rat;ship=ss;flower=aster;star=sun;back/R;broken/A;in/N;around/C;some/H;later/B;"
                + "short/T;first/I;for/L;", book);
        changed();
    }

    private void changed() {
        oracle = new Oracle(new ArrayList<>(book), words, answer, weights.clone());
        parses = oracle.parses();
    }

    /** True if the oracle could not make all objects: then its answers are not to be used. */
    boolean givenUp() {
        oracle.pieces(0, words.size());
        return oracle.givenUp;
    }

    /** Adds the entries of a text to a list, without those that are there; returns the fault. */
    private static int entries(String text, List<Oracle.Entry> list) {
        Matcher m = ENTRY.matcher(text);
        int place = 0;
        while (place < text.length()) {
            m.region(place, text.length());
            if (!m.lookingAt()) {
                return place;
            }
            Oracle.Entry e = new Oracle.Entry(m.group(1), m.group(2), m.group(3) == null ? ' ' : m.group(3).charAt(0));
            if (!list.contains(e)) {
                list.add(e);
            }
            place = m.end();
        }
        return NONE;
    }

    int write(int letter) {
        if (letter < 32 || letter > 126) {
            return BAD;
        }
        return text.length() == 200 ? FULL : text.append((char) letter).length();
    }

    int wipe() {
        int had = text.length();
        text.setLength(0);
        return had;
    }

    int fault() {
        return entries(text.toString(), new ArrayList<>());
    }

    int learn() {
        List<Oracle.Entry> larger = new ArrayList<>(book);
        if (entries(text.toString(), larger) != NONE) {
            return NO;
        }
        if (larger.size() > 24) {
            return FULL;
        }
        int added = larger.size() - book.size();
        book = larger;
        changed();
        return added;
    }

    private boolean has(int e) {
        return e >= 0 && e < book.size();
    }

    int forget(int e) {
        if (!has(e)) {
            return BAD;
        }
        book.remove(e);
        changed();
        return book.size();
    }

    int clue() {
        if (!CLUE.matcher(text).matches()) {
            return NO;
        }
        words = Arrays.asList(text.toString().split(" "));
        changed();
        return words.size();
    }

    int answer() {
        if (!ANSWER.matcher(text).matches()) {
            return NO;
        }
        answer = text.toString();
        changed();
        return answer.length();
    }

    int weigh(int sort, int w) {
        if (sort < 0 || sort > 10 || w < 0 || w > 9) {
            return BAD;
        }
        int had = weights[sort];
        if (had == w) {
            return NO;
        }
        weights[sort] = w;
        changed();
        return had;
    }

    int entry(int e, int what) {
        if (!has(e) || what < 0 || what > 3) {
            return BAD;
        }
        Oracle.Entry entry = book.get(e);
        int[] values = {entry.word().length(), entry.stands() ? 0 : 1, entry.stands() ? entry.letters().length() : 0,
            entry.stands() ? NONE : entry.sign()};
        return values[what];
    }

    private static int letter(String letters, int i) {
        return letters != null && i < letters.length() ? letters.charAt(i) : NONE;
    }

    int entryLetter(int e, int what, int i) {
        if (!has(e) || what < 0 || what > 1 || i < 0) {
            return BAD;
        }
        return letter(what == 0 ? book.get(e).word() : book.get(e).letters(), i);
    }

    int clueLetter(int w, int i) {
        if (w < 0 || w >= words.size() || i < -1) {
            return BAD;
        }
        return i == -1 ? words.get(w).length() : letter(words.get(w), i);
    }

    int answerLetter(int i) {
        return i < 0 ? BAD : letter(answer, i);
    }

    int sign(int w, int sort) {
        if (w < 0 || w >= words.size() || sort < 2 || sort > 10) {
            return BAD;
        }
        return oracle.marked(w, Oracle.SIGNS.charAt(sort - 2)) ? 1 : 0;
    }

    int parses() {
        return parses.size();
    }

    int cost() {
        return parses.isEmpty() ? NONE : parses.get(0).cost();
    }

    int first(int i) {
        if (i < -1) {
            return BAD;
        }
        if (parses.isEmpty()) {
            return NONE;
        }
        return i == -1 ? parses.get(0).text().length() : letter(parses.get(0).text(), i);
    }

    /** kind 0 for pieces, 1 for pieceCost, 2 for units. */
    int span(int kind, int i, int j, int a, int b) {
        if (i < 0 || j <= i || j > words.size() || a < 0 || b <= a || b > answer.length()) {
            return BAD;
        }
        String letters = answer.substring(a, b);
        return switch (kind) {
            case 0 -> (int) oracle.pieces(i, j).stream().filter(p -> p.letters().equals(letters)).count();
            case 1 -> oracle.pieces(i, j).stream().filter(p -> p.letters().equals(letters))
                    .mapToInt(Oracle.Piece::cost).min().orElse(NONE);
            default -> (int) oracle.units(i, j).stream().filter(u -> u.letters().equals(letters)).count();
        };
    }

    int cheapest() {
        return (int) parses.stream().filter(p -> p.cost() == parses.get(0).cost()).count();
    }

    int offer(int i) {
        if (i < -1) {
            return BAD;
        }
        List<Integer> offers = oracle.offers();
        return i == -1 ? offers.size() : i < offers.size() ? offers.get(i) : NONE;
    }

    private String offered(int i) {
        List<Integer> offers = oracle.offers();
        return i >= 0 && i < offers.size() ? book.get(offers.get(i)).letters() : null;
    }

    int ifOffer(int i, int what) {
        String letters = offered(i);
        if (letters == null || what < 0 || what > 1) {
            return BAD;
        }
        List<Oracle.Parse> other = oracle.answering(letters).parses();
        return what == 0 ? other.size() : other.isEmpty() ? NONE : other.get(0).cost();
    }

    int take(int i) {
        String letters = offered(i);
        if (letters == null) {
            return BAD;
        }
        if (letters.equals(answer)) {
            return NO;
        }
        answer = letters;
        changed();
        return letters.length();
    }

    int without(int e) {
        return has(e) ? oracle.lacking(e).parses().size() : BAD;
    }

    int count(int what) {
        switch (what) {
            case 0:
                return book.size();
            case 1:
                return words.size();
            case 2:
                return answer.length();
            case 3:
                return oracle.offers().size();
            case 4:
                return text.length();
            case 5:
                int needed = 0;
                for (int e = 0; e < book.size(); e++) {
                    needed += without(e) < parses.size() ? 1 : 0;
                }
                return needed;
            case 6:
                return (int) book.stream().filter(Oracle.Entry::stands).count();
            default:
                return BAD;
        }
    }
}
