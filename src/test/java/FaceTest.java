import java.io.IOException;
import java.lang.management.ManagementFactory;
import java.lang.reflect.Array;
import java.lang.reflect.Constructor;
import java.lang.reflect.Field;
import java.lang.reflect.Method;
import java.lang.reflect.Modifier;
import java.nio.file.Files;
import java.nio.file.Path;
import java.util.Arrays;
import java.util.IdentityHashMap;
import java.util.Map;
import java.util.Set;
import java.util.TreeSet;

/** The document's face and no more, some rules of LANGUAGE.md, and how much room an object and its calls take. */
public final class FaceTest {
    private static final Set<String> FACE = new TreeSet<>(Arrays.asList("write(int)", "wipe()", "fault()", "learn()",
            "forget(int)", "clue()", "answer()", "weigh(int,int)", "entry(int,int)", "entryLetter(int,int,int)",
            "clueLetter(int,int)", "answerLetter(int)", "sign(int,int)", "parses()", "cost()", "first(int)",
            "pieces(int,int,int,int)", "pieceCost(int,int,int,int)", "units(int,int,int,int)", "cheapest()",
            "offer(int)", "ifOffer(int,int)", "take(int)", "without(int)", "count(int)"));

    public static void main(String[] args) throws IOException, IllegalAccessException {
        methods();
        constants();
        classes();
        source();
        room();
        Check.end();
    }

    private static String name(Method m) {
        StringBuilder s = new StringBuilder(m.getName()).append('(');
        for (Class<?> type : m.getParameterTypes()) {
            s.append(s.charAt(s.length() - 1) == '(' ? "" : ",").append(type.getName());
        }
        return s.append(')').toString();
    }

    private static void methods() {
        Set<String> found = new TreeSet<>();
        Set<String> names = new TreeSet<>();
        for (Method m : ClueParts.class.getDeclaredMethods()) {
            if (Modifier.isPublic(m.getModifiers())) {
                found.add(name(m));
                names.add(m.getName());
                Check.due(name(m) + " answers an int", m.getReturnType().getName(), "int");
                Check.due(name(m) + " is static", Modifier.isStatic(m.getModifiers()) ? 1 : 0, 0);
            } else {
                Check.due(name(m) + " is private", Modifier.isPrivate(m.getModifiers()) ? 1 : 0, 1);
            }
        }
        Check.due("the public methods", found.toString(), FACE.toString());
        for (Method m : ClueParts.class.getDeclaredMethods()) {
            if (!Modifier.isPublic(m.getModifiers())) {
                Check.due(m.getName() + " bears a public name", names.contains(m.getName()) ? 1 : 0, 0);
            }
        }
        Constructor<?>[] constructors = ClueParts.class.getDeclaredConstructors();
        Check.due("constructors", constructors.length, 1);
        Check.due("the constructor is public", Modifier.isPublic(constructors[0].getModifiers()) ? 1 : 0, 1);
        Check.due("the constructor's parameters", constructors[0].getParameterCount(), 0);
    }

    private static void constants() {
        Check.due("BAD", ClueParts.BAD, -1);
        Check.due("NO", ClueParts.NO, -2);
        Check.due("FULL", ClueParts.FULL, -3);
        Check.due("NONE", ClueParts.NONE, -4);
        Set<String> found = new TreeSet<>();
        for (Field f : ClueParts.class.getDeclaredFields()) {
            if (Modifier.isPrivate(f.getModifiers())) {
                continue;
            }
            found.add(f.getName());
            int all = Modifier.PUBLIC | Modifier.STATIC | Modifier.FINAL;
            Check.due(f.getName() + " is public, static and final", f.getModifiers() & all, all);
        }
        Check.due("the constants", found.toString(), "[BAD, FULL, NO, NONE]");
    }

    private static void classes() {
        int modifiers = ClueParts.class.getModifiers();
        Check.due("the class is public and final", Modifier.isPublic(modifiers) && Modifier.isFinal(modifiers) ? 1 : 0,
                1);
        Class<?>[] inside = ClueParts.class.getDeclaredClasses();
        Check.due("not more than twelve classes", inside.length < 12 ? 1 : 0, 1);
        for (Class<?> c : inside) {
            Check.due(c.getName() + " is static", Modifier.isStatic(c.getModifiers()) ? 1 : 0, 1);
            Check.due(c.getName() + " is private", Modifier.isPrivate(c.getModifiers()) ? 1 : 0, 1);
            for (Field f : c.getDeclaredFields()) {
                if (Modifier.isStatic(f.getModifiers())) {
                    Check.due(f + " is final", Modifier.isFinal(f.getModifiers()) ? 1 : 0, 1);
                }
            }
            for (Method m : c.getDeclaredMethods()) {
                Check.due(m + " has at most seven parameters", m.getParameterCount() <= 7 ? 1 : 0, 1);
            }
        }
    }

    private static void source() throws IOException {
        String source = Files.readString(Path.of("src/main/java/ClueParts.java"));
        String code = source.replaceAll("(?s)/\\*.*?\\*/", "").replaceAll("//[^\n]*", "");
        String[] words = {"throw", "throws", "try", "catch", "synchronized", "assert", "import", "package", "protected",
            "volatile", "native", "Object", "System", "Exception", "hashCode", "toString", "equals"};
        for (String word : words) {
            Check.due("the source says " + word, code.matches("(?s).*\\b" + word + "\\b.*") ? 1 : 0, 0);
        }
        Check.due("the source has an arrow", code.contains("->") || code.contains("::") ? 1 : 0, 0);
        for (char c : source.toCharArray()) {
            if (c != '\n' && (c < 32 || c > 126)) {
                Check.due("a sign of the source", c, ' ');
            }
        }
    }

    /** What can be reached from an object: how many objects and arrays, how many fields and elements. */
    private static long[] size(Object x) throws IllegalAccessException {
        Map<Object, Boolean> seen = new IdentityHashMap<>();
        long[] size = new long[2];
        measure(x, seen, size);
        return size;
    }

    private static void measure(Object x, Map<Object, Boolean> seen, long[] size) throws IllegalAccessException {
        if (x == null || seen.put(x, true) != null) {
            return;
        }
        size[0]++;
        if (x.getClass().isArray()) {
            size[1] += Array.getLength(x);
            return;
        }
        for (Field f : x.getClass().getDeclaredFields()) {
            if (!Modifier.isStatic(f.getModifiers())) {
                size[1]++;
                f.setAccessible(true);
                if (!f.getType().isPrimitive()) {
                    measure(f.get(x), seen, size);
                }
            }
        }
    }

    private static void callAll(ClueParts x) {
        for (int letter : new int[] {97, 61, 98, 59}) {
            x.write(letter);
        }
        x.fault();
        x.learn();
        x.wipe();
        x.clue();
        x.answer();
        x.forget(14);
        x.weigh(2, 3);
        x.weigh(2, 1);
        x.take(1);
        x.take(0);
        x.first(-1);
        x.first(5);
        x.cheapest();
        x.cost();
        x.pieces(0, 3, 0, 3);
        x.pieceCost(0, 2, 0, 3);
        x.units(0, 2, 0, 3);
        x.ifOffer(0, 1);
        x.without(0);
        for (int what = 0; what < 7; what++) {
            x.count(what);
        }
    }

    private static void room() throws IllegalAccessException {
        ClueParts x = new ClueParts();
        long[] before = size(x);
        Check.due("objects and arrays of an object are few", before[0] < 100 ? 1 : 0, 1);
        Check.due("fields and elements of an object are few", before[1] < 150000 ? 1 : 0, 1);
        callAll(x);
        com.sun.management.ThreadMXBean bean = (com.sun.management.ThreadMXBean) ManagementFactory.getThreadMXBean();
        long start = bean.getCurrentThreadAllocatedBytes();
        for (int i = 0; i < 1000; i++) {
            callAll(x);
        }
        long bytes = bean.getCurrentThreadAllocatedBytes() - start;
        // The test's own rows are some 32 bytes a round; a row made by one call a round would be more.
        Check.due("bytes that the calls made: " + bytes, bytes < 60000 ? 1 : 0, 1);
        long[] after = size(x);
        Check.due("objects and arrays after all calls", after[0], before[0]);
        Check.due("fields and elements after all calls", after[1], before[1]);
        System.out.println(before[0] + " objects and arrays, " + before[1] + " fields and elements");
    }
}
