/** One call of the class by its name, so that runs of calls can be written down, told and made again. */
record Call(String name, int[] arguments, int due) {
    /** An object answers no more calls than this. */
    static final int MOST = 512;

    /** A call that is asked only for what it shows. */
    static Call of(String name, int... arguments) {
        return new Call(name, arguments, 0);
    }

    boolean isRefused() {
        return due == ClueParts.BAD || due == ClueParts.NO || due == ClueParts.FULL;
    }

    /** True if the document lets this call change something: it is not a question, and it is not refused. */
    boolean mayChange() {
        return switch (name) {
            case "write", "wipe", "learn", "forget", "clue", "answer", "weigh", "take" -> !isRefused();
            default -> false;
        };
    }

    int on(ClueParts x) {
        int[] a = arguments;
        return switch (name + a.length) {
            case "write1" -> x.write(a[0]);
            case "wipe0" -> x.wipe();
            case "fault0" -> x.fault();
            case "learn0" -> x.learn();
            case "forget1" -> x.forget(a[0]);
            case "clue0" -> x.clue();
            case "answer0" -> x.answer();
            case "weigh2" -> x.weigh(a[0], a[1]);
            case "entry2" -> x.entry(a[0], a[1]);
            case "entryLetter3" -> x.entryLetter(a[0], a[1], a[2]);
            case "clueLetter2" -> x.clueLetter(a[0], a[1]);
            case "answerLetter1" -> x.answerLetter(a[0]);
            case "sign2" -> x.sign(a[0], a[1]);
            case "parses0" -> x.parses();
            case "cost0" -> x.cost();
            case "first1" -> x.first(a[0]);
            case "pieces4" -> x.pieces(a[0], a[1], a[2], a[3]);
            case "pieceCost4" -> x.pieceCost(a[0], a[1], a[2], a[3]);
            case "units4" -> x.units(a[0], a[1], a[2], a[3]);
            case "cheapest0" -> x.cheapest();
            case "offer1" -> x.offer(a[0]);
            case "ifOffer2" -> x.ifOffer(a[0], a[1]);
            case "take1" -> x.take(a[0]);
            case "without1" -> x.without(a[0]);
            case "count1" -> x.count(a[0]);
            default -> throw new IllegalArgumentException("no such call: " + this);
        };
    }

    @Override
    public String toString() {
        String inside = java.util.Arrays.toString(arguments);
        return name + "(" + inside.substring(1, inside.length() - 1) + ")";
    }
}
