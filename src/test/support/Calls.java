import java.lang.reflect.InvocationTargetException;
import java.lang.reflect.Method;
import java.util.ArrayList;
import java.util.List;
import java.util.Map;
import java.util.TreeMap;

/**
 * A new object of the class, called by words: "hour 0 3". It keeps what was called, to tell it if an answer is
 * not the one that is due, and refuses a call beyond the 512th, as nothing is promised there.
 */
final class Calls {
    private static final int MOST_CALLS = 512;
    private static final Map<String, Integer> NUMBERS = new TreeMap<>(Map.of("NONE", -1, "UNKNOWN", -2, "OUTSIDE", -3,
            "NOT", -4, "FULL", -5, "NULL", -11, "INDEX", -12, "EMPTY", -13, "CAST", -14, "SIZE", -15));
    private static final Map<String, Method> METHODS = new TreeMap<>();

    static {
        NUMBERS.put("LOW", Integer.MIN_VALUE);
        NUMBERS.put("HIGH", Integer.MAX_VALUE);
        for (Method method : OstlerHours.class.getDeclaredMethods()) {
            METHODS.put(method.getName(), method);
        }
    }

    private static String sentence = "";
    private static int passed = 0;
    private static int failed = 0;

    private final OstlerHours object = new OstlerHours();
    private final List<String> done = new ArrayList<>();
    private int calls = 0;

    // ---- what is counted

    /** The sentence of the document that the next tests are about. */
    static void about(String words) {
        sentence = words;
    }

    static void need(boolean fine, String what) {
        if (fine) {
            passed++;
        } else {
            failed++;
            System.out.println("'" + sentence + "': " + what);
        }
    }

    /** Ends the test: with exit code 1, if something was not as it is due. */
    static void end(String what) {
        System.out.println(what + ": " + passed + " as due, " + failed + " not");
        if (failed != 0 || passed == 0) {
            System.exit(1);
        }
    }

    private static int number(String word) {
        Integer named = NUMBERS.get(word);
        return named != null ? named : Integer.parseInt(word);
    }

    // ---- what is called

    int call(String words) {
        done.add(words.trim());
        return answer(words.trim());
    }

    private int answer(String words) {
        String[] parts = words.split(" +");
        Object[] arguments = new Object[parts.length - 1];
        for (int i = 1; i < parts.length; i++) {
            arguments[i - 1] = number(parts[i]);
        }
        calls++;
        if (calls > MOST_CALLS) {
            throw new IllegalStateException("a test calls too often: " + sentence + ", " + words);
        }
        try {
            return (Integer) METHODS.get(parts[0]).invoke(object, arguments);
        } catch (InvocationTargetException | IllegalAccessException e) {
            throw new IllegalStateException("behind " + allCalls(), e);
        }
    }

    /** The same call again and again is told once, with how often. */
    private String allCalls() {
        StringBuilder all = new StringBuilder();
        int times = 0;
        for (int i = 0; i < done.size(); i++) {
            times++;
            if (i + 1 == done.size() || !done.get(i + 1).equals(done.get(i))) {
                all.append(all.length() == 0 ? "" : ", ").append(done.get(i)).append(times > 1 ? " (" + times + " times)" : "");
                times = 0;
            }
        }
        return all.toString();
    }

    /** Calls and the answers that are due: "stage 1: 1, hour 0 3: 10". */
    Calls run(String script) {
        for (String one : script.split(",")) {
            int colon = one.indexOf(':');
            String words = one.substring(0, colon).trim();
            int want = number(one.substring(colon + 1).trim());
            int got = call(words);
            need(got == want, got == want ? "" : words + " answered " + got + ", due is " + want + "; all calls: " + allCalls());
        }
        return this;
    }

    /** Calls whose answers are no matter here: "stage 1, oats 0". */
    Calls go(String script) {
        for (String one : script.split(",")) {
            call(one);
        }
        return this;
    }

    /** A run of write() is told as the text that it writes. */
    Calls write(String text) {
        done.add("'" + text + "'");
        for (int i = 0; i < text.length(); i++) {
            answer("write " + (int) text.charAt(i));
        }
        return this;
    }

    /** Writes a text without a fault and does it. */
    Calls tell(String text) {
        return write(text).run("road: " + text.split(";").length);
    }

    static Calls fresh() {
        return new Calls();
    }

    static Calls told(String text) {
        return new Calls().tell(text);
    }

    static String times(int n, String clause) {
        StringBuilder text = new StringBuilder();
        for (int i = 0; i < n; i++) {
            text.append(i == 0 ? "" : ";").append(clause);
        }
        return text.toString();
    }
}
