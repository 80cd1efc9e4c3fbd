/**
 * A solver for cryptic crossword clues: it reads a book, a clue and an answer from texts, counts the parses of the
 * clue, finds and prints the cheapest one, and tells what another answer or a smaller book would change.
 */
public final class ClueParts {
    public static final int BAD = -1, NO = -2, FULL = -3, NONE = -4;

    private static final int MAX_TEXT = 200;
    private static final int MAX_ENTRIES = 24;
    private static final int MAX_WORDS = 6;
    private static final int MAX_WORD = 7;
    private static final int MAX_LETTERS = 8;
    private static final int MAX_LINE = 200;
    private static final int MAX_WEIGHT = 9;
    private static final int MAX_NUMBER = 1000000;

    private static final int GIVEN = 0, ITSELF = 1, REVERSAL = 2, ANAGRAM = 3, CONTAINER = 4, INSERTION = 5;
    private static final int HIDDEN = 6, BEHEADED = 7, CURTAILED = 8, INITIALS = 9, LINK = 10;
    private static final int SORTS = 11;
    private static final String SIGNS = "RACNHBTIL";

    private static final int[] FIRST_WEIGHTS = {1, 3, 1, 2, 1, 1, 2, 2, 2, 2, 0};
    private static final String FIRST_STANDS = "sailor=tar;pest=rat;ship=ss;flower=aster;star=sun;";
    private static final String FIRST_SIGNS =
            "back/R;broken/A;in/N;around/C;some/H;later/B;short/T;first/I;for/L;";
    private static final String FIRST_CLUE = "pest back sailor";
    private static final String FIRST_ANSWER = "tar";

    private final Text text = new Text();
    private final Book book = new Book();
    private final Clue words = new Clue();
    private final int[] weights = FIRST_WEIGHTS.clone();
    private final Solver solver = new Solver(book, words, weights);
    private final Line line = new Line(solver);
    private long solution;

    public ClueParts() {
        text.replace(FIRST_STANDS);
        book.readFrom(text);
        text.replace(FIRST_SIGNS);
        book.readFrom(text);
        text.replace(FIRST_CLUE);
        words.readFrom(text);
        text.replace(FIRST_ANSWER);
        solution = text.packed(0, text.length);
        text.length = 0;
        solver.renew(solution);
    }

    public int write(int letter) {
        if (letter < 32 || letter > 126) {
            return BAD;
        }
        if (text.length >= MAX_TEXT) {
            return FULL;
        }
        text.append(letter);
        return text.length;
    }

    public int wipe() {
        int had = text.length;
        text.length = 0;
        return had;
    }

    public int fault() {
        return text.faultPlace();
    }

    public int learn() {
        if (text.faultPlace() != NONE) {
            return NO;
        }
        int added = book.readFrom(text);
        if (added > 0) {
            solver.renew(solution);
        }
        return added;
    }

    public int forget(int e) {
        if (!book.has(e)) {
            return BAD;
        }
        book.remove(e);
        solver.renew(solution);
        return book.size;
    }

    public int clue() {
        if (!words.readFrom(text)) {
            return NO;
        }
        solver.renew(solution);
        return words.size;
    }

    public int answer() {
        int length = text.length;
        if (length < 2 || length > MAX_LETTERS || text.wordEnd(0) != length) {
            return NO;
        }
        adopt(text.packed(0, length));
        return length;
    }

    public int weigh(int sort, int w) {
        if (sort < 0 || sort >= SORTS || w < 0 || w > MAX_WEIGHT) {
            return BAD;
        }
        int had = weights[sort];
        if (had == w) {
            return NO;
        }
        weights[sort] = w;
        solver.renew(solution);
        return had;
    }

    public int entry(int e, int what) {
        if (!book.has(e) || what < 0 || what > 3) {
            return BAD;
        }
        int sort = book.sort[e];
        switch (what) {
            case 0:
                return Letters.size(book.word[e]);
            case 1:
                return sort == GIVEN ? 0 : 1;
            case 2:
                return Letters.size(book.letters[e]);
            default:
                return sort == GIVEN ? NONE : signOf(sort);
        }
    }

    public int entryLetter(int e, int what, int i) {
        if (!book.has(e) || what < 0 || what > 1 || i < 0) {
            return BAD;
        }
        return letterOrNone(what == 0 ? book.word[e] : book.letters[e], i);
    }

    public int clueLetter(int w, int i) {
        if (!words.has(w) || i < -1) {
            return BAD;
        }
        if (i == -1) {
            return Letters.size(words.word[w]);
        }
        return letterOrNone(words.word[w], i);
    }

    public int answerLetter(int i) {
        return i < 0 ? BAD : letterOrNone(solution, i);
    }

    public int sign(int w, int sort) {
        if (!words.has(w) || sort < REVERSAL || sort >= SORTS) {
            return BAD;
        }
        return solver.marked(w, sort) ? 1 : 0;
    }

    public int parses() {
        return limited(solver.parseTable.totalAt(solver.parse()));
    }

    public int cost() {
        return solver.parseTable.costOrNone(solver.parse());
    }

    public int first(int i) {
        if (i < -1) {
            return BAD;
        }
        if (solver.parseTable.totalAt(solver.parse()) == 0) {
            return NONE;
        }
        line.make();
        if (i == -1) {
            return line.length;
        }
        return i < line.length ? line.characters[i] : NONE;
    }

    public int pieces(int i, int j, int a, int b) {
        if (!inRange(i, j, a, b)) {
            return BAD;
        }
        return limited(solver.pieceTable.totalAt(solver.piece(i, j, stretch(a, b))));
    }

    public int pieceCost(int i, int j, int a, int b) {
        if (!inRange(i, j, a, b)) {
            return BAD;
        }
        return solver.pieceTable.costOrNone(solver.piece(i, j, stretch(a, b)));
    }

    public int units(int i, int j, int a, int b) {
        if (!inRange(i, j, a, b)) {
            return BAD;
        }
        return limited(solver.unitTable.totalAt(solver.unit(i, j, stretch(a, b))));
    }

    public int cheapest() {
        return limited(solver.parseTable.tiesAt(solver.parse()));
    }

    public int offer(int i) {
        if (i < -1) {
            return BAD;
        }
        return i == -1 ? offers() : entryOfOffer(i);
    }

    public int ifOffer(int i, int what) {
        int e = entryOfOffer(i);
        if (e == NONE || what < 0 || what > 1) {
            return BAD;
        }
        solver.suppose(book.letters[e], NONE);
        int result = what == 0 ? parses() : cost();
        solver.supposeNothing(solution);
        return result;
    }

    public int take(int i) {
        int e = entryOfOffer(i);
        if (e == NONE) {
            return BAD;
        }
        if (book.letters[e] == solution) {
            return NO;
        }
        adopt(book.letters[e]);
        return Letters.size(solution);
    }

    public int without(int e) {
        if (!book.has(e)) {
            return BAD;
        }
        solver.suppose(solution, e);
        int result = parses();
        solver.supposeNothing(solution);
        return result;
    }

    public int count(int what) {
        switch (what) {
            case 0:
                return book.size;
            case 1:
                return words.size;
            case 2:
                return Letters.size(solution);
            case 3:
                return offers();
            case 4:
                return text.length;
            case 5:
                return neededEntries();
            case 6:
                return book.stands();
            default:
                return BAD;
        }
    }

    private void adopt(long letters) {
        solution = letters;
        solver.renew(letters);
    }

    private boolean inRange(int i, int j, int a, int b) {
        return i >= 0 && i < j && j <= words.size && a >= 0 && a < b && b <= Letters.size(solution);
    }

    /** Only what is returned is limited: which entries are needed is told by the whole numbers. */
    private static int limited(long number) {
        return (int) Math.min(number, MAX_NUMBER);
    }

    private static int letterOrNone(long letters, int i) {
        return i < Letters.size(letters) ? Letters.at(letters, i) : NONE;
    }

    private static int sortOf(int sign) {
        for (int i = 0; i < SIGNS.length(); i++) {
            if (SIGNS.charAt(i) == sign) {
                return i + REVERSAL;
            }
        }
        return NONE;
    }

    private static int signOf(int sort) {
        int i = sort - REVERSAL;
        return i >= 0 && i < SIGNS.length() ? SIGNS.charAt(i) : NONE;
    }

    /** The part of the answer that consists of its letters a to b - 1, read forward. */
    private static int stretch(int a, int b) {
        return (1 << b) - (1 << a);
    }

    private boolean isOffer(int e) {
        long letters = book.letters[e];
        if (Letters.size(letters) < 2 || !mayDefine(e)) {
            return false;
        }
        for (int earlier = 0; earlier < e; earlier++) {
            if (book.letters[earlier] == letters && mayDefine(earlier)) {
                return false;
            }
        }
        return true;
    }

    private boolean mayDefine(int e) {
        return book.word[e] == words.wordAt(0) || book.word[e] == words.wordAt(words.size - 1);
    }

    private int offers() {
        int found = 0;
        for (int e = 0; e < book.size; e++) {
            if (isOffer(e)) {
                found++;
            }
        }
        return found;
    }

    private int entryOfOffer(int i) {
        int found = 0;
        for (int e = 0; e < book.size; e++) {
            if (isOffer(e)) {
                if (found == i) {
                    return e;
                }
                found++;
            }
        }
        return NONE;
    }

    /** An entry whose word is not in the clue can't be needed. */
    private int neededEntries() {
        long total = solver.parseTable.totalAt(solver.parse());
        int needed = 0;
        for (int e = 0; e < book.size && total > 0; e++) {
            if (words.includes(book.word[e])) {
                solver.suppose(solution, e);
                if (solver.parseTable.totalAt(solver.parse()) < total) {
                    needed++;
                }
            }
        }
        solver.supposeNothing(solution);
        return needed;
    }

    /**
     * Up to 12 small letters in one number, five bits each, the first letter lowest, so that two words are compared
     * at once and shortened by shifts. No letters are 0.
     */
    private static final class Letters {
        static final int BITS = 5, MASK = 31, SMALL = 96, ROOM = 12;

        static long with(long letters, int i, int character) {
            return letters | (long) (character & MASK) << BITS * i;
        }

        static int size(long letters) {
            int size = 0;
            while (size < ROOM && letters >>> BITS * size != 0) {
                size++;
            }
            return size;
        }

        static int at(long letters, int i) {
            return i < 0 || i >= ROOM ? 0 : SMALL + (int) (letters >>> BITS * i & MASK);
        }

        /** What B or T leaves, which may be no letters. */
        static long shortened(long letters, int sort) {
            if (sort == BEHEADED) {
                return letters >>> BITS;
            }
            int size = size(letters);
            return size == 0 ? 0 : letters & (1L << BITS * (size - 1)) - 1;
        }

        /** Whether both have the same letters, each as often, in any order; empty places count, and so do lengths. */
        static boolean areSame(long letters, long others) {
            for (int i = 0; i < ROOM; i++) {
                int letter = (int) (letters >>> BITS * i & MASK);
                if (times(letter, letters) != times(letter, others)) {
                    return false;
                }
            }
            return true;
        }

        private static int times(int letter, long letters) {
            int found = 0;
            for (int i = 0; i < ROOM; i++) {
                if ((letters >>> BITS * i & MASK) == letter) {
                    found++;
                }
            }
            return found;
        }
    }

    /** The buffer, and the rules by which it is read. */
    private static final class Text {
        final int[] characters = new int[MAX_TEXT];
        int length;

        void append(int character) {
            if (length < MAX_TEXT) {
                characters[length] = character;
                length++;
            }
        }

        void replace(String other) {
            length = 0;
            for (int i = 0; i < other.length(); i++) {
                append(other.charAt(i));
            }
        }

        /** The character at a place, or 0, which no text has, beyond the end. */
        int at(int place) {
            return place >= 0 && place < length ? characters[place] : 0;
        }

        /** The end of the small letters that begin at a place. */
        int wordEnd(int place) {
            int end = place;
            while (end < length && at(end) >= 'a' && at(end) <= 'z') {
                end++;
            }
            return end;
        }

        long packed(int from, int to) {
            long letters = 0;
            for (int i = from; i < to; i++) {
                letters = Letters.with(letters, i - from, at(i));
            }
            return letters;
        }

        int faultPlace() {
            int place = 0;
            while (place < length) {
                int end = entryEnd(place);
                if (end <= place) {
                    return place;
                }
                place = end;
            }
            return NONE;
        }

        /** The end of the entry that begins at a place, or NONE if there is no entry. */
        int entryEnd(int place) {
            int middle = wordEnd(place);
            if (middle == place || middle - place > MAX_WORD) {
                return NONE;
            }
            int from = middle + 1;
            int end;
            if (at(middle) == '=') {
                end = wordEnd(from);
                if (end == from || end - from > MAX_LETTERS) {
                    return NONE;
                }
            } else if (at(middle) == '/' && sortOf(at(from)) != NONE) {
                end = from + 1;
            } else {
                return NONE;
            }
            return at(end) == ';' ? end + 1 : NONE;
        }
    }

    /** The entries: a word, and the letters for which it may stand, or no letters and the sort of an indicator. */
    private static final class Book {
        final long[] word = new long[MAX_ENTRIES];
        final long[] letters = new long[MAX_ENTRIES];
        final int[] sort = new int[MAX_ENTRIES];
        int size;

        boolean has(int e) {
            return e >= 0 && e < size;
        }

        /** Adds the entries of a text without a fault; returns how many, or FULL if they have no room. */
        int readFrom(Text text) {
            int before = size;
            int place = 0;
            while (place < text.length) {
                int end = text.entryEnd(place);
                if (end <= place) {
                    break;
                }
                if (!added(text, place, end)) {
                    size = before;
                    return FULL;
                }
                place = end;
            }
            return size - before;
        }

        /** Adds the entry that stands in a text from place to end, unless it is there already; false: no room. */
        private boolean added(Text text, int place, int end) {
            int middle = text.wordEnd(place);
            long entryWord = text.packed(place, middle);
            boolean stands = text.at(middle) == '=';
            long entryLetters = stands ? text.packed(middle + 1, end - 1) : 0;
            int entrySort = stands ? GIVEN : sortOf(text.at(middle + 1));
            if (find(entryWord, entryLetters, entrySort) != NONE) {
                return true;
            }
            if (size >= MAX_ENTRIES) {
                return false;
            }
            word[size] = entryWord;
            letters[size] = entryLetters;
            sort[size] = entrySort;
            size++;
            return true;
        }

        int find(long entryWord, long entryLetters, int entrySort) {
            for (int e = 0; e < size; e++) {
                if (word[e] == entryWord && letters[e] == entryLetters && sort[e] == entrySort) {
                    return e;
                }
            }
            return NONE;
        }

        void remove(int removed) {
            if (!has(removed)) {
                return;
            }
            for (int e = removed + 1; e < size; e++) {
                word[e - 1] = word[e];
                letters[e - 1] = letters[e];
                sort[e - 1] = sort[e];
            }
            size--;
        }

        int stands() {
            int found = 0;
            for (int e = 0; e < size; e++) {
                if (sort[e] == GIVEN) {
                    found++;
                }
            }
            return found;
        }
    }

    /** The words of the clue, and their letters joined without gaps. */
    private static final class Clue {
        final long[] word = new long[MAX_WORDS];
        /** Where each word begins in the joined letters, and behind the last one their end. */
        final int[] start = new int[MAX_WORDS + 1];
        final int[] joined = new int[MAX_WORDS * MAX_WORD];
        int size;

        boolean has(int w) {
            return w >= 0 && w < size;
        }

        /** A word, or no letters if there is no such word. */
        long wordAt(int w) {
            return has(w) ? word[w] : 0;
        }

        /** Makes a text the clue; false, and nothing is changed, if it is not a clue. */
        boolean readFrom(Text text) {
            int found = wordsIn(text);
            if (found < 2) {
                return false;
            }
            int place = 0;
            for (int w = 0; w < found; w++) {
                int end = text.wordEnd(place);
                word[w] = text.packed(place, end);
                // The w blanks before this word are left out.
                for (int i = place; i < end; i++) {
                    joined[i - w] = text.at(i);
                }
                start[w + 1] = end - w;
                place = end + 1;
            }
            size = found;
            return true;
        }

        /** The number of words if a text is words with one blank between two, otherwise 0. */
        private static int wordsIn(Text text) {
            int place = 0;
            for (int found = 1; found <= MAX_WORDS; found++) {
                int end = text.wordEnd(place);
                if (end == place || end - place > MAX_WORD) {
                    return 0;
                }
                if (end == text.length) {
                    return found;
                }
                if (text.at(end) != ' ') {
                    return 0;
                }
                place = end + 1;
            }
            return 0;
        }

        boolean includes(long someWord) {
            for (int w = 0; w < size; w++) {
                if (word[w] == someWord) {
                    return true;
                }
            }
            return false;
        }

        boolean isAnagram(int i, int j, long letters) {
            if (start[j] - start[i] != Letters.size(letters)) {
                return false;
            }
            long others = 0;
            for (int at = start[i]; at < start[j]; at++) {
                others = Letters.with(others, at - start[i], joined[at]);
            }
            return others != letters && Letters.areSame(letters, others);
        }

        long initials(int i, int j) {
            long letters = 0;
            for (int w = i; w < j; w++) {
                letters = Letters.with(letters, w - i, joined[start[w]]);
            }
            return letters;
        }

        /** The number of places in the words i to j - 1 where letters are hidden. */
        int hidingPlaces(int i, int j, long letters) {
            int length = Letters.size(letters);
            int found = 0;
            for (int from = start[i] + 1; from < start[i + 1]; from++) {
                int to = from + length;
                if (to > start[j - 1] && to < start[j] && standsAt(from, length, letters)) {
                    found++;
                }
            }
            return found;
        }

        private boolean standsAt(int from, int length, long letters) {
            for (int i = 0; i < length; i++) {
                if (joined[from + i] != Letters.at(letters, i)) {
                    return false;
                }
            }
            return true;
        }
    }

    /**
     * What was found out in each of many slots: how many ways there are, the lowest cost, how many ways have it, and
     * the first of these. A slot is valid only under the stamp it was opened with, so nothing has to be cleared.
     */
    private static final class Table {
        static final int ENDLESS = 1000000;

        private final int[] stamp;
        private final long[] total;
        private final int[] cost;
        private final long[] ties;
        private final int[] choice;

        Table(int slots) {
            stamp = new int[slots];
            total = new long[slots];
            cost = new int[slots];
            ties = new long[slots];
            choice = new int[slots];
        }

        private boolean has(int slot) {
            return slot >= 0 && slot < stamp.length;
        }

        /** Empties a slot that is not valid yet; false if there is nothing to do. */
        boolean opens(int slot, int now) {
            if (!has(slot) || stamp[slot] == now) {
                return false;
            }
            stamp[slot] = now;
            total[slot] = 0;
            cost[slot] = ENDLESS;
            ties[slot] = 0;
            choice[slot] = 0;
            return true;
        }

        /** The ways must be added in the document's order: of the cheapest ones the first stays the choice. */
        void add(int slot, long ways, int itsCost, long itsTies, int itsChoice) {
            if (!has(slot) || ways == 0) {
                return;
            }
            total[slot] += ways;
            if (itsCost < cost[slot]) {
                cost[slot] = itsCost;
                ties[slot] = itsTies;
                choice[slot] = itsChoice;
            } else if (itsCost == cost[slot]) {
                ties[slot] += itsTies;
            }
        }

        long totalAt(int slot) {
            return has(slot) ? total[slot] : 0;
        }

        int costAt(int slot) {
            return has(slot) ? cost[slot] : ENDLESS;
        }

        int costOrNone(int slot) {
            return totalAt(slot) > 0 ? costAt(slot) : NONE;
        }

        long tiesAt(int slot) {
            return has(slot) ? ties[slot] : 0;
        }

        int choiceAt(int slot) {
            return has(slot) ? choice[slot] : 0;
        }
    }

    /**
     * A part of the answer that a piece or unit has to spell: bit p is set if letter p of the answer belongs to it
     * (a container takes letters out of the middle), and one more bit if it is read backward.
     */
    private static final class Part {
        static final int BACKWARD = 1 << MAX_LETTERS, LETTERS = BACKWARD - 1, ALL = 2 * BACKWARD;

        static int size(int part) {
            return Integer.bitCount(part & LETTERS);
        }

        /** The bit of the letter that is read first. */
        static int firstLetter(int part) {
            int letters = part & LETTERS;
            if ((part & BACKWARD) == 0) {
                return letters & -letters;
            }
            for (int bit = BACKWARD >> 1; bit > 0; bit >>= 1) {
                if ((letters & bit) != 0) {
                    return bit;
                }
            }
            return 0;
        }

        static int direction(int part) {
            return part & BACKWARD;
        }

        static int reversed(int part) {
            return part ^ BACKWARD;
        }

        /** The part without the letters of another one. */
        static int minus(int part, int other) {
            return part & ~(other & LETTERS);
        }
    }

    /**
     * Counts pieces and units, each only once for the same words and the same part of the answer. All that calls
     * itself here goes on with fewer words, of which there are at most six, and slotOf refuses all other words.
     */
    private static final class Solver {
        static final int DETAILS = 1 << 13;
        private static final int SPANS = MAX_WORDS * (MAX_WORDS + 1) / 2;

        final Table pieceTable = new Table(SPANS * Part.ALL);
        final Table unitTable = new Table(SPANS * Part.ALL);
        final Table parseTable = new Table(1);
        final Book book;
        final Clue clue;
        private final int[] weights;
        /** For each word of the clue a bit for each sort of which it is an indicator. */
        private final int[] marks = new int[MAX_WORDS];
        private long answer;
        private int missing = NONE;
        private int lastStamp;
        private int ownStamp;
        private int now;

        Solver(Book book, Clue clue, int[] weights) {
            this.book = book;
            this.clue = clue;
            this.weights = weights;
        }

        /** To be called when the book, the clue, the answer or a weight has changed. */
        void renew(long newAnswer) {
            lastStamp++;
            ownStamp = lastStamp;
            supposeNothing(newAnswer);
        }

        /** From now on answers are for this answer, and for the book without the missing entry. */
        void suppose(long otherAnswer, int missingEntry) {
            lastStamp++;
            begin(otherAnswer, missingEntry, lastStamp);
        }

        void supposeNothing(long realAnswer) {
            begin(realAnswer, NONE, ownStamp);
        }

        private void begin(long itsAnswer, int missingEntry, int stamp) {
            answer = itsAnswer;
            missing = missingEntry;
            now = stamp;
            for (int w = 0; w < clue.size; w++) {
                marks[w] = marksOf(clue.word[w]);
            }
        }

        private int marksOf(long word) {
            int found = 0;
            for (int e = 0; e < book.size; e++) {
                if (e != missing && book.sort[e] != GIVEN && book.word[e] == word) {
                    found |= 1 << book.sort[e];
                }
            }
            return found;
        }

        int stampNow() {
            return now;
        }

        boolean marked(int w, int sort) {
            return clue.has(w) && (marks[w] >> sort & 1) == 1;
        }

        /**
         * Counts the parses, and returns their slot. The choices are tried in the order that decides between parses
         * of the same cost: definition first, the same with a link, definition last, the same with a link.
         */
        int parse() {
            if (!parseTable.opens(0, now)) {
                return 0;
            }
            for (int choice = 0; choice < 4; choice++) {
                if (isPossible(choice)) {
                    int slot = piece(pieceStart(choice), pieceEnd(choice), wholeAnswer());
                    int cost = pieceTable.costAt(slot) + (isLinked(choice) ? weights[LINK] : 0);
                    parseTable.add(0, pieceTable.totalAt(slot), cost, pieceTable.tiesAt(slot), choice);
                }
            }
            return 0;
        }

        static boolean isDefinedFirst(int choice) {
            return choice < 2;
        }

        static boolean isLinked(int choice) {
            return (choice & 1) == 1;
        }

        private boolean isPossible(int choice) {
            boolean first = isDefinedFirst(choice);
            return maySay(clue.wordAt(first ? 0 : clue.size - 1), answer)
                    && (!isLinked(choice) || marked(first ? 1 : clue.size - 2, LINK));
        }

        int pieceStart(int choice) {
            int left = isLinked(choice) ? 2 : 1;
            return isDefinedFirst(choice) ? left : 0;
        }

        int pieceEnd(int choice) {
            int left = isLinked(choice) ? 2 : 1;
            return isDefinedFirst(choice) ? clue.size : clue.size - left;
        }

        int wholeAnswer() {
            return stretch(0, Letters.size(answer));
        }

        private boolean maySay(long word, long letters) {
            int e = book.find(word, letters, GIVEN);
            return e != NONE && e != missing;
        }

        /** The letters of a part in the order in which it is read. */
        long spelling(int part) {
            long letters = 0;
            int rest = part;
            int size = Part.size(part);
            for (int i = 0; i < size; i++) {
                int letter = Part.firstLetter(rest);
                letters = Letters.with(letters, i, Letters.at(answer, Integer.bitCount(letter - 1)));
                rest = Part.minus(rest, letter);
            }
            return letters;
        }

        private int slotOf(int i, int j, int part) {
            if (i < 0 || i >= j || j > clue.size || part <= 0 || part >= Part.ALL || Part.size(part) == 0) {
                return NONE;
            }
            return (j * (j - 1) / 2 + i) * Part.ALL + part;
        }

        /** Counts the pieces of the words i to j - 1 that spell a part, and returns their slot. */
        private int piece(int i, int j, int part) {
            int slot = slotOf(i, j, part);
            if (!pieceTable.opens(slot, now)) {
                return slot;
            }
            for (int end = i + 1; end < j; end++) {
                addPieces(slot, i, end, j, part);
            }
            int unit = unit(i, j, part);
            pieceTable.add(slot, unitTable.totalAt(unit), unitTable.costAt(unit), unitTable.tiesAt(unit),
                    j * Part.ALL + part);
            return slot;
        }

        /** Adds the pieces whose first unit consists of the words i to end - 1. */
        private void addPieces(int slot, int i, int end, int j, int part) {
            int size = Part.size(part);
            int head = Part.direction(part);
            int tail = part;
            for (int taken = 1; taken < size; taken++) {
                int letter = Part.firstLetter(tail);
                head |= letter;
                tail = Part.minus(tail, letter);
                int unit = unit(i, end, head);
                if (unitTable.totalAt(unit) > 0) {
                    int rest = piece(end, j, tail);
                    pieceTable.add(slot, unitTable.totalAt(unit) * pieceTable.totalAt(rest),
                            unitTable.costAt(unit) + pieceTable.costAt(rest),
                            unitTable.tiesAt(unit) * pieceTable.tiesAt(rest), end * Part.ALL + head);
                }
            }
        }

        /** Counts the units that consist of the words i to j - 1 and spell a part, and returns their slot. */
        private int unit(int i, int j, int part) {
            int slot = slotOf(i, j, part);
            if (!unitTable.opens(slot, now)) {
                return slot;
            }
            long letters = spelling(part);
            if (j - i == 1) {
                addWord(slot, i, letters);
                return slot;
            }
            addReversals(slot, i, j, part);
            addAnagrams(slot, i, j, letters);
            addContainers(slot, CONTAINER, i, j, part);
            addContainers(slot, INSERTION, i, j, part);
            addHidden(slot, i, j, letters);
            addShortened(slot, BEHEADED, i, j, letters);
            addShortened(slot, CURTAILED, i, j, letters);
            addInitials(slot, i, j, letters);
            return slot;
        }

        private void addUnit(int slot, int sort, int detail, int cost) {
            unitTable.add(slot, 1, cost, 1, sort * DETAILS + detail);
        }

        private void addWord(int slot, int w, long letters) {
            if (maySay(clue.word[w], letters)) {
                addUnit(slot, GIVEN, 0, weights[GIVEN]);
            }
            if (clue.word[w] == letters) {
                addUnit(slot, ITSELF, 0, weights[ITSELF]);
            }
        }

        private void addReversals(int slot, int i, int j, int part) {
            if (Part.size(part) < 2) {
                return;
            }
            if (marked(i, REVERSAL)) {
                addReversed(slot, piece(i + 1, j, Part.reversed(part)), 0);
            }
            if (marked(j - 1, REVERSAL)) {
                addReversed(slot, piece(i, j - 1, Part.reversed(part)), 1);
            }
        }

        private void addReversed(int slot, int inside, int detail) {
            unitTable.add(slot, pieceTable.totalAt(inside), weights[REVERSAL] + pieceTable.costAt(inside),
                    pieceTable.tiesAt(inside), REVERSAL * DETAILS + detail);
        }

        private void addAnagrams(int slot, int i, int j, long letters) {
            if (marked(i, ANAGRAM) && clue.isAnagram(i + 1, j, letters)) {
                addUnit(slot, ANAGRAM, 0, weights[ANAGRAM]);
            }
            if (marked(j - 1, ANAGRAM) && clue.isAnagram(i, j - 1, letters)) {
                addUnit(slot, ANAGRAM, 1, weights[ANAGRAM]);
            }
        }

        private void addContainers(int slot, int sort, int i, int j, int part) {
            for (int k = i + 1; k < j - 1; k++) {
                if (marked(k, sort)) {
                    addInsides(slot, sort, i, k, j, part);
                }
            }
        }

        /** Tries all inner letters of the units whose indicator is word k. */
        private void addInsides(int slot, int sort, int i, int k, int j, int part) {
            int size = Part.size(part);
            int rest = part;
            for (int from = 1; from < size - 1; from++) {
                rest = Part.minus(rest, Part.firstLetter(rest));
                int inner = Part.direction(part);
                int after = rest;
                for (int to = from + 1; to < size; to++) {
                    int letter = Part.firstLetter(after);
                    inner |= letter;
                    after = Part.minus(after, letter);
                    addInside(slot, sort, i, k, j, part, inner);
                }
            }
        }

        private void addInside(int slot, int sort, int i, int k, int j, int part, int inner) {
            int outer = Part.minus(part, inner);
            int before = piece(i, k, sort == CONTAINER ? outer : inner);
            if (pieceTable.totalAt(before) == 0) {
                return;
            }
            int after = piece(k + 1, j, sort == CONTAINER ? inner : outer);
            unitTable.add(slot, pieceTable.totalAt(before) * pieceTable.totalAt(after),
                    weights[sort] + pieceTable.costAt(before) + pieceTable.costAt(after),
                    pieceTable.tiesAt(before) * pieceTable.tiesAt(after),
                    sort * DETAILS + k * Part.ALL + inner);
        }

        private void addHidden(int slot, int i, int j, long letters) {
            if (j - i < 3 || !marked(i, HIDDEN)) {
                return;
            }
            int places = clue.hidingPlaces(i + 1, j, letters);
            unitTable.add(slot, places, weights[HIDDEN], places, HIDDEN * DETAILS);
        }

        /** The detail is 0 for the word itself, or the number of the entry plus 1. */
        private void addShortened(int slot, int sort, int i, int j, long letters) {
            if (j - i != 2 || !marked(i, sort)) {
                return;
            }
            long word = clue.word[i + 1];
            if (Letters.shortened(word, sort) == letters) {
                addUnit(slot, sort, 0, weights[sort] + weights[ITSELF]);
            }
            for (int e = 0; e < book.size; e++) {
                if (e != missing && book.word[e] == word && Letters.shortened(book.letters[e], sort) == letters) {
                    addUnit(slot, sort, e + 1, weights[sort] + weights[GIVEN]);
                }
            }
        }

        private void addInitials(int slot, int i, int j, long letters) {
            if (marked(i, INITIALS) && clue.initials(i + 1, j) == letters) {
                addUnit(slot, INITIALS, 0, weights[INITIALS]);
            }
        }
    }

    /** The line of the best parse. */
    private static final class Line {
        final int[] characters = new int[MAX_LINE];
        int length;
        private int madeUnder;
        private final Solver solver;

        Line(Solver solver) {
            this.solver = solver;
        }

        /** Writes the line, unless it stands since the last change. There must be a parse. */
        void make() {
            if (madeUnder == solver.stampNow()) {
                return;
            }
            madeUnder = solver.stampNow();
            length = 0;
            int choice = solver.parseTable.choiceAt(solver.parse());
            boolean definedFirst = Solver.isDefinedFirst(choice);
            int definition = definedFirst ? 0 : solver.clue.size - 1;
            put(definedFirst ? '<' : '>');
            putWords(definition, definition + 1);
            if (Solver.isLinked(choice)) {
                put('-');
            }
            put('=');
            putPiece(solver.pieceStart(choice), solver.pieceEnd(choice), solver.wholeAnswer());
        }

        private void put(int character) {
            if (length < MAX_LINE) {
                characters[length] = character;
                length++;
            }
        }

        private void putLetters(long letters) {
            int size = Letters.size(letters);
            for (int i = 0; i < size; i++) {
                put(Letters.at(letters, i));
            }
        }

        private void putWords(int i, int j) {
            for (int w = i; w < j; w++) {
                putLetters(solver.clue.wordAt(w));
            }
        }

        private void putPiece(int i, int j, int part) {
            int from = i;
            int rest = part;
            while (from < j) {
                int choice = solver.pieceTable.choiceAt(solver.piece(from, j, rest));
                int end = choice / Part.ALL;
                int head = choice % Part.ALL;
                if (end <= from || end > j) {
                    return;
                }
                if (from > i) {
                    put('+');
                }
                putUnit(from, end, head);
                rest = Part.minus(rest, head);
                from = end;
            }
        }

        private void putUnit(int i, int j, int part) {
            int choice = solver.unitTable.choiceAt(solver.unit(i, j, part));
            int sort = choice / Solver.DETAILS;
            if (sort == GIVEN || sort == ITSELF) {
                if (sort == ITSELF) {
                    put('\'');
                }
                putLetters(solver.spelling(part));
                return;
            }
            put(signOf(sort));
            put('(');
            putInside(sort, choice % Solver.DETAILS, i, j, part);
            put(')');
        }

        private void putInside(int sort, int detail, int i, int j, int part) {
            switch (sort) {
                case REVERSAL:
                    putPiece(detail == 0 ? i + 1 : i, detail == 0 ? j : j - 1, Part.reversed(part));
                    break;
                case ANAGRAM:
                    putWords(detail == 0 ? i + 1 : i, detail == 0 ? j : j - 1);
                    break;
                case CONTAINER:
                case INSERTION:
                    putContainer(sort, detail, i, j, part);
                    break;
                case BEHEADED:
                case CURTAILED:
                    putWhole(detail, j - 1);
                    break;
                default:
                    putWords(i + 1, j);
                    break;
            }
        }

        private void putContainer(int sort, int detail, int i, int j, int part) {
            int k = detail / Part.ALL;
            int inner = detail % Part.ALL;
            int outer = Part.minus(part, inner);
            if (k <= i || k >= j) {
                return;
            }
            putPiece(i, k, sort == CONTAINER ? outer : inner);
            put(')');
            put('(');
            putPiece(k + 1, j, sort == CONTAINER ? inner : outer);
        }

        /** What is shortened, before it is shortened. */
        private void putWhole(int detail, int w) {
            if (detail == 0) {
                put('\'');
                putWords(w, w + 1);
            } else if (solver.book.has(detail - 1)) {
                putLetters(solver.book.letters[detail - 1]);
            }
        }
    }
}
