import java.util.ArrayList;
import java.util.List;
import java.util.regex.Matcher;
import java.util.regex.Pattern;

/**
 * A run of calls on a new object, written as the document writes its examples: weigh(2, 5) = 1; cost() = 6. An answer
 * may also be BAD, NO, FULL, NONE or a sign like 'R', an argument also LEAST or MOST, the ends of int. And in short:
 * <pre>
 * text "a b"         wipes the text and writes this
 * more "c"           writes this behind the text
 * clue "a b" = 2     text and clue(); answer and learn likewise
 * book "a=b;"        forgets the whole book, and learns these entries
 * line = "&lt;a=b"      the whole line of the best parse by first; or NONE
 * </pre>
 * Every answer is looked at. After each group of refused calls and questions it is also looked at whether they changed
 * anything that other calls show: the state must be the same as after the other calls alone.
 */
final class Script {
    private static final String VALUE = "(-?\\d+|[A-Z]+|'.')";
    private static final Pattern CALL = Pattern.compile("(\\w+)\\(([^)]*)\\) = " + VALUE);
    private static final Pattern TEXT = Pattern.compile("(text|more|book) \"([^\"]*)\"");
    private static final Pattern READING = Pattern.compile("(learn|clue|answer) \"([^\"]*)\" = " + VALUE);
    private static final Pattern LINE = Pattern.compile("line = (?:\"([^\"]*)\"|NONE)");
    private static final Pattern BETWEEN = Pattern.compile("[;\\s]*");

    private final String sentence;
    private final List<Call> calls = new ArrayList<>();
    private int length;
    private int entries = 14;

    Script(String sentence, String script) {
        this.sentence = sentence;
        int place = 0;
        while (place < script.length()) {
            Matcher between = BETWEEN.matcher(script).region(place, script.length());
            place = between.lookingAt() ? between.end() : place;
            if (place < script.length()) {
                place = read(script, place);
            }
        }
    }

    void run() {
        answers();
        refusals();
    }

    private int read(String script, int place) {
        for (Pattern pattern : new Pattern[] {READING, TEXT, LINE, CALL}) {
            Matcher m = pattern.matcher(script).region(place, script.length());
            if (m.lookingAt()) {
                if (pattern == LINE) {
                    line(m.group(1));
                } else if (pattern == CALL) {
                    call(m.group(1), arguments(m.group(2)), value(m.group(3)));
                } else if (pattern == TEXT) {
                    text(m.group(1), m.group(2));
                } else {
                    text("text", m.group(2));
                    call(m.group(1), new int[0], value(m.group(3)));
                }
                return m.end();
            }
        }
        throw new IllegalArgumentException(sentence + ": not understood: " + script.substring(place));
    }

    private static int value(String text) {
        return switch (text) {
            case "BAD" -> ClueParts.BAD;
            case "NO" -> ClueParts.NO;
            case "FULL" -> ClueParts.FULL;
            case "NONE" -> ClueParts.NONE;
            case "LEAST" -> Integer.MIN_VALUE;
            case "MOST" -> Integer.MAX_VALUE;
            default -> text.charAt(0) == '\'' ? text.charAt(1) : Integer.parseInt(text);
        };
    }

    private static int[] arguments(String text) {
        if (text.isEmpty()) {
            return new int[0];
        }
        String[] parts = text.split(", ?");
        int[] values = new int[parts.length];
        for (int i = 0; i < parts.length; i++) {
            values[i] = value(parts[i]);
        }
        return values;
    }

    private void call(String name, int[] arguments, int due) {
        Call call = new Call(name, arguments, due);
        calls.add(call);
        if (call.isRefused()) {
            return;
        }
        switch (name) {
            case "write" -> length = due;
            case "wipe" -> length = 0;
            case "learn" -> entries += due;
            case "forget" -> entries = due;
            default -> {
            }
        }
    }

    private void text(String kind, String text) {
        if (kind.equals("book")) {
            for (int left = entries - 1; left >= 0; left--) {
                call("forget", new int[] {0}, left);
            }
        }
        if (!kind.equals("more")) {
            call("wipe", new int[0], length);
        }
        for (int i = 0; i < text.length(); i++) {
            call("write", new int[] {text.charAt(i)}, length + 1);
        }
        if (kind.equals("book")) {
            call("learn", new int[0], (int) text.chars().filter(c -> c == ';').count());
        }
    }

    private void line(String line) {
        if (line == null) {
            call("first", new int[] {-1}, ClueParts.NONE);
            call("first", new int[] {0}, ClueParts.NONE);
            return;
        }
        call("first", new int[] {-1}, line.length());
        for (int i = 0; i < line.length(); i++) {
            call("first", new int[] {i}, line.charAt(i));
        }
        call("first", new int[] {line.length()}, ClueParts.NONE);
    }

    private void answers() {
        Check.due(sentence + ": calls of one object are at most 512", calls.size() <= Call.MOST ? 1 : 0, 1);
        ClueParts x = new ClueParts();
        for (int i = 0; i < calls.size(); i++) {
            Call call = calls.get(i);
            Check.due(sentence + ": call " + (i + 1) + ", " + call, call.on(x), call.due());
        }
    }

    private void refusals() {
        List<Call> changes = new ArrayList<>();
        List<Call> group = new ArrayList<>();
        for (int i = 0; i < calls.size(); i++) {
            Call call = calls.get(i);
            if (!call.mayChange()) {
                group.add(call);
                continue;
            }
            changedNothing(group, calls.subList(0, i), changes);
            group.clear();
            changes.add(call);
        }
        changedNothing(group, calls, changes);
    }

    private void changedNothing(List<Call> group, List<Call> all, List<Call> changes) {
        int room = Call.MOST - all.size();
        if (group.isEmpty() || room < 20) {
            return;
        }
        List<String> want = new Witness(changes, room).testimony();
        List<String> got = new Witness(all, room).testimony();
        for (int i = 0; i < Math.min(want.size(), got.size()); i++) {
            if (!want.get(i).equals(got.get(i))) {
                Check.due(sentence + ": after " + group, got.get(i), want.get(i));
                return;
            }
        }
        Check.due(sentence + ": after " + group + " answers", got.size(), want.size());
    }
}
