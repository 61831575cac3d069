import java.io.IOException;
import java.lang.management.ManagementFactory;
import java.lang.reflect.Constructor;
import java.lang.reflect.Field;
import java.lang.reflect.Method;
import java.lang.reflect.Modifier;
import java.nio.file.Files;
import java.nio.file.Path;
import java.util.ArrayList;
import java.util.List;
import java.util.Set;
import java.util.TreeSet;
import java.util.regex.Matcher;
import java.util.regex.Pattern;

/** The public face, the rules of LANGUAGE.md that can be looked up, and that calls make no objects. */
public final class FaceTests {
    private static final String[] METHODS = {"write 1", "erase 0", "fault 0", "road 0", "hour 2", "rider 2", "inn 1", "as 2",
        "stage 1", "oats 1", "shoe 1", "lead 2", "turn 2", "undo 0", "keep 1", "back 1", "given 1", "ahead 3", "comes 2",
        "match 1", "fastest 1", "feed 2", "falls 4", "seen 3", "forget 0", "kinds 0", "ask 0", "book 2", "enter 4",
        "read 3", "weigh 2", "copy 5", "drop 1", "count 1"};
    private static final String[] CONSTANTS = {"NONE -1", "UNKNOWN -2", "OUTSIDE -3", "NOT -4", "FULL -5", "NULL -11",
        "INDEX -12", "EMPTY -13", "CAST -14", "SIZE -15"};
    private static final Path SOURCE = Path.of("src/main/java/OstlerHours.java");

    private static int failed = 0;

    private static void need(boolean fine, String what) {
        if (!fine) {
            failed++;
            System.out.println("not so: " + what);
        }
    }

    private static void needSame(Set<String> got, String[] want, String what) {
        need(got.equals(new TreeSet<>(List.of(want))), what + " " + got);
    }

    // ---- the face

    private static void testFace() throws IllegalAccessException {
        Class<?> face = OstlerHours.class;
        need(Modifier.isPublic(face.getModifiers()) && Modifier.isFinal(face.getModifiers()), "public and final");
        Set<String> methods = new TreeSet<>();
        for (Method m : face.getDeclaredMethods()) {
            if (!Modifier.isPrivate(m.getModifiers())) {
                need(m.getModifiers() == Modifier.PUBLIC, "a public method alone: " + m);
                need(m.getReturnType() == int.class, "answers an int: " + m);
                for (Class<?> type : m.getParameterTypes()) {
                    need(type == int.class, "takes ints: " + m);
                }
                methods.add(m.getName() + " " + m.getParameterCount());
            }
        }
        needSame(methods, METHODS, "methods");
        Set<String> constants = new TreeSet<>();
        for (Field f : face.getDeclaredFields()) {
            if (!Modifier.isPrivate(f.getModifiers())) {
                need(f.getType() == int.class, "an int: " + f);
                need(f.getModifiers() == (Modifier.PUBLIC | Modifier.STATIC | Modifier.FINAL), "a constant: " + f);
                constants.add(f.getName() + " " + f.getInt(null));
            }
        }
        needSame(constants, CONSTANTS, "constants");
        for (Constructor<?> c : face.getDeclaredConstructors()) {
            need(Modifier.isPublic(c.getModifiers()) && c.getParameterCount() == 0, "the constructor: " + c);
        }
        need(face.getDeclaredConstructors().length == 1, "one constructor");
    }

    private static void testInsides() {
        Class<?>[] insides = OstlerHours.class.getDeclaredClasses();
        need(insides.length <= 11, "some twelve classes: " + insides.length);
        List<Class<?>> all = new ArrayList<>(List.of(insides));
        for (Class<?> inside : all) {
            need(Modifier.isStatic(inside.getModifiers()), "static: " + inside);
            need(!Modifier.isPublic(inside.getModifiers()) && !Modifier.isProtected(inside.getModifiers()), "inside: " + inside);
        }
        all.add(OstlerHours.class);
        Set<String> publics = new TreeSet<>();
        for (String method : METHODS) {
            publics.add(method.split(" ")[0]);
        }
        for (Class<?> one : all) {
            int fields = 0;
            for (Field f : one.getDeclaredFields()) {
                fields += Modifier.isStatic(f.getModifiers()) ? 0 : 1;
                need(!Modifier.isStatic(f.getModifiers()) || Modifier.isFinal(f.getModifiers()), "final: " + f);
            }
            need(fields <= 20, "some twenty fields: " + one);
            for (Method m : one.getDeclaredMethods()) {
                need(m.getParameterCount() <= 7, "seven parameters: " + m);
                need(Modifier.isPublic(m.getModifiers()) || !publics.contains(m.getName()), "no public one's name: " + m);
            }
        }
    }

    // ---- the language

    private static void testLanguage() throws IOException {
        String source = Files.readString(SOURCE);
        String code = source.replaceAll("(?s)/\\*.*?\\*/", "").replaceAll("//[^\n]*", "")
                .replaceAll("\"[^\"\n]*\"", "\"\"").replaceAll("'[^'\n]*'", "' '");
        String[] words = {"throw", "throws", "try", "catch", "finally", "synchronized", "assert", "import", "package",
            "record", "var", "yield", "float", "double", "native", "volatile", "transient", "equals", "hashCode",
            "toString", "protected", "default ->", "System.nanoTime", "System.currentTimeMillis", "Random", "Thread"};
        for (String word : words) {
            need(!Pattern.compile("\\b" + Pattern.quote(word) + "\\b").matcher(code).find(), "without " + word);
        }
        need(!code.contains("->") && !code.contains("::") && !code.contains("@"), "without lambdas and notes");
        need(!Pattern.compile("\"\"\\s*\\+|\\+\\s*\"\"").matcher(code).find(), "texts joined by no +");
        for (int i = 0; i < source.length(); i++) {
            need(source.charAt(i) < 127, "signs below 127 at " + i);
        }
        Set<String> libraries = new TreeSet<>();
        Matcher m = Pattern.compile("\\b(System|Math|Integer|Long|Arrays|Character|Objects)\\.\\w+").matcher(code);
        while (m.find()) {
            libraries.add(m.group());
        }
        libraries.removeAll(Set.of("System.arraycopy", "Math.max", "Math.min", "Math.abs", "Integer.bitCount", "Integer.compare"));
        need(libraries.isEmpty(), "no other library: " + libraries);
        testMethodLengths(code);
    }

    private static void testMethodLengths(String code) {
        String[] lines = code.split("\n");
        int depth = 0;
        int start = 0;
        int outside = -1;
        for (int i = 0; i < lines.length; i++) {
            String line = lines[i].trim();
            if (outside < 0 && line.endsWith(") {")) {
                start = i;
                outside = depth;
            }
            for (char sign : line.toCharArray()) {
                depth += sign == '{' ? 1 : sign == '}' ? -1 : 0;
            }
            if (outside >= 0 && depth == outside) {
                need(i - start < 60, "some sixty lines: " + lines[start]);
                outside = -1;
            }
        }
        need(depth == 0 && outside < 0, "all methods end");
    }

    // ---- the room

    /** No call makes an object or an array, so that a run's room is what its constructors make. */
    private static void testNoCallMakesObjects() {
        com.sun.management.ThreadMXBean bean = (com.sun.management.ThreadMXBean) ManagementFactory.getThreadMXBean();
        OstlerHours day = new OstlerHours();
        String text = "inn 1;inn 9;inn 9;hack 0 0;vicious 0 2;dawn 1 3;midnight 1 9;rider 0 2;rider 2 0";
        char[] letters = text.toCharArray();
        callAll(day, letters);
        long self = Thread.currentThread().getId();
        bean.getThreadAllocatedBytes(self);
        long before = bean.getThreadAllocatedBytes(self);
        for (int i = 0; i < 500; i++) {
            callAll(day, letters);
        }
        long made = bean.getThreadAllocatedBytes(self) - before;
        need(made < 20000, "calls make no objects: " + made + " bytes");
    }

    private static void callAll(OstlerHours x, char[] letters) {
        x.write('x');
        x.erase();
        for (char letter : letters) {
            x.write(letter);
        }
        x.fault();
        x.road();
        for (int h = -1; h < 4; h++) {
            x.hour(h, 0);
            x.rider(h, 0);
            x.inn(h);
            x.as(h, 1);
            x.given(h);
            x.ahead(h, 9, 0);
            x.comes(h, 0);
            x.match(h);
            x.fastest(h);
            x.feed(h, 9);
            x.oats(h);
            x.lead(h, 1);
            x.turn(h, 1);
            x.keep(h);
            x.stage(2);
            x.shoe(h);
            x.back(h);
            x.undo();
            x.falls(9, 3, h, 0);
            x.seen(3, 3, 3);
            x.kinds();
            x.ask();
            x.forget();
            x.book(h, 4);
            x.enter(h, 0, 2, 1);
            x.read(h, 0, 2);
            x.weigh(h, 0);
            x.copy(h, 0, h, 1, 2);
            x.drop(h);
            x.count(h);
        }
    }

    public static void main(String[] args) throws IOException, IllegalAccessException {
        testFace();
        testInsides();
        testLanguage();
        testNoCallMakesObjects();
        System.out.println(failed == 0 ? "the face is as told" : failed + " not so");
        if (failed != 0) {
            System.exit(1);
        }
    }
}
