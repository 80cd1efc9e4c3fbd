import java.io.IOException;
import java.lang.reflect.Method;
import java.lang.reflect.Modifier;
import java.nio.file.Files;
import java.nio.file.Path;
import java.util.ArrayList;
import java.util.Arrays;
import java.util.List;
import java.util.TreeSet;
import java.util.regex.Matcher;
import java.util.regex.Pattern;
import java.util.stream.Collectors;

/** What can be read from the document itself: its three examples, its public face, and the signature of each promise. */
public final class DocumentTest extends Bounds {
    private static final Path DOCUMENT = Path.of("../shared/DOC.md");
    private static final int PROMISES = 26;

    public static void main(String[] args) throws IOException {
        String document = Files.readString(DOCUMENT);
        examples(document);
        face(document);
        promises(document);
        firstBook(document);
        Check.end();
    }

    /** The examples as they are written, each with its calls and their results behind a title. */
    private static void examples(String document) {
        int place = document.indexOf("\nExamples: ");
        Check.due("the document has examples", place >= 0 ? 1 : 0, 1);
        Matcher m = Pattern.compile("(?m)^(\\d)\\. ([^:]*): (.*)\\.$").matcher(document.substring(Math.max(place, 0)));
        int found = 0;
        while (m.find()) {
            found++;
            run("example " + m.group(1) + ", " + m.group(2), m.group(3));
        }
        Check.due("examples in the document", found, 3);
    }

    private static void face(String document) {
        Matcher block = Pattern.compile("(?s)## The public face\\s+```java\\n(.*?)```").matcher(document);
        Check.due("the document has a face", block.find() ? 1 : 0, 1);
        TreeSet<String> due = new TreeSet<>();
        Matcher m = Pattern.compile("public (int \\w+\\([^)]*\\));").matcher(block.group(1));
        while (m.find()) {
            due.add(withoutNames(m.group(1)));
        }
        Check.due("the methods of the document's face", methods().toString(), due.toString());
        Matcher constant = Pattern.compile("(\\w+) = (-\\d)[,;]").matcher(block.group(1));
        List<String> constants = new ArrayList<>();
        while (constant.find()) {
            constants.add(constant.group(1) + " = " + constant.group(2));
        }
        Check.due("the constants of the document's face", List.of("BAD = " + ClueParts.BAD, "NO = " + ClueParts.NO,
                "FULL = " + ClueParts.FULL, "NONE = " + ClueParts.NONE).toString(), constants.toString());
    }

    /** A signature with the types of its parameters alone. */
    private static String withoutNames(String signature) {
        return signature.replaceAll("int \\w+(?=[,)])", "int");
    }

    private static TreeSet<String> methods() {
        TreeSet<String> found = new TreeSet<>();
        for (Method m : ClueParts.class.getDeclaredMethods()) {
            if (Modifier.isPublic(m.getModifiers())) {
                String types = Arrays.stream(m.getParameterTypes()).map(Class::getName).collect(Collectors.joining(", "));
                found.add(m.getReturnType().getName() + " " + m.getName() + "(" + types + ")");
            }
        }
        return found;
    }

    /** Promise 1 is the constructor, and each other one is a method. */
    private static void promises(String document) {
        Matcher m = Pattern.compile("(?m)^## Promise (\\d+): [^\\n]*\\n\\n`([^`]*)`$").matcher(document);
        TreeSet<String> missing = methods();
        int found = 0;
        while (m.find()) {
            found++;
            Check.due("the promises are numbered", Integer.parseInt(m.group(1)), found);
            boolean stands = found == 1 ? m.group(2).equals("ClueParts()") : missing.remove(withoutNames(m.group(2)));
            Check.due("the class has " + m.group(2), stands ? 1 : 0, 1);
        }
        Check.due("promises in the document", found, PROMISES);
        Check.due("methods that are no promise", missing.toString(), "[]");
    }

    /** The first book: learned once more it adds nothing, and a new object answers its entries in this order. */
    private static void firstBook(String document) {
        Matcher m = Pattern.compile("At first these are its entries: ([^.]*)\\.").matcher(document);
        Check.due("the document has a first book", m.find() ? 1 : 0, 1);
        String[] entries = m.group(1).split(" ");
        run("the first book has no other entries", "count(0) = " + entries.length + "; learn \""
                + String.join(";", entries) + ";\" = 0");
        StringBuilder script = new StringBuilder();
        for (int e = 0; e < entries.length; e++) {
            String[] parts = entries[e].split("[=/]");
            letters(script, e, 0, parts[0]);
            if (entries[e].contains("=")) {
                letters(script, e, 1, parts[1]);
            } else {
                script.append("entry(" + e + ", 3) = '" + parts[1] + "'; ");
            }
        }
        run("the first book in its order", script.toString());
    }

    private static void letters(StringBuilder script, int e, int what, String letters) {
        for (int i = 0; i < letters.length(); i++) {
            script.append("entryLetter(" + e + ", " + what + ", " + i + ") = '" + letters.charAt(i) + "'; ");
        }
        script.append("entryLetter(" + e + ", " + what + ", " + letters.length() + ") = NONE; ");
    }
}
