/** What the tests of boundary cases share: a run of calls for each sentence of the document, as Script reads it. */
abstract class Bounds {
    /** Makes the run, for the sentence of the document that it is about. */
    static void run(String sentence, String script) {
        new Script(sentence, script).run();
    }

    /** The beginning of a script: nothing but this book, this clue and this answer. */
    static String made(String book, String clue, String answer) {
        return "book \"" + book + "\"; clue \"" + clue + "\" = " + clue.split(" ").length + "; answer \"" + answer
                + "\" = " + answer.length() + "; ";
    }
}
