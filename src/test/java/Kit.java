import java.lang.reflect.InvocationTargetException;
import java.lang.reflect.Method;
import java.util.Arrays;
import java.util.Comparator;
import java.util.function.IntUnaryOperator;

/** What the tests share: feeding a text, running named cases, counting the answers that are not due. */
final class Kit {
    private int wrong;
    private int cases;
    private String about = "";

    void due(String call, long got, long want) {
        if (got != want) {
            wrong++;
            if (wrong <= 40) {
                System.out.println(about + call + " answered " + got + ", due is " + want);
            }
        }
    }

    void due(String call, boolean got, boolean want) {
        due(call, got ? 1 : 0, want ? 1 : 0);
    }

    /** What is asked with 0, 1, 2 .. and the answers due. */
    void row(String call, IntUnaryOperator got, int... want) {
        for (int i = 0; i < want.length; i++) {
            due(call + " [" + i + "]", got.applyAsInt(i), want[i]);
        }
    }

    /** Runs the cases of a class by their names: each method that begins with "promise" is one. */
    void cases(Class<?> of) throws IllegalAccessException {
        Method[] methods = of.getDeclaredMethods();
        Arrays.sort(methods, Comparator.comparing(Method::getName));
        for (Method method : methods) {
            if (method.getName().startsWith("promise")) {
                about = method.getName() + ": ";
                cases++;
                try {
                    method.invoke(null);
                } catch (InvocationTargetException thrown) {
                    wrong++;
                    System.out.println(about + "threw " + thrown.getCause());
                }
            }
        }
        about = "";
        due("there are cases of " + of, cases > 0, true);
    }

    /** Ends the test: with exit code 1 if an answer was wrong. */
    void close() {
        String told = cases == 0 ? "" : cases + " cases: ";
        System.out.println(told + (wrong == 0 ? "all answers are as due" : wrong + " answers are not as due"));
        if (wrong != 0) {
            System.exit(1);
        }
    }

    /** The numbers of feed(), five for each twenty bytes; behind the text stand blanks. */
    static int[] numbers(byte[] text) {
        int feeds = (text.length + 19) / 20;
        int[] numbers = new int[5 * feeds];
        for (int i = 0; i < 20 * feeds; i++) {
            int b = i < text.length ? text[i] & 255 : ' ';
            numbers[i / 4] = numbers[i / 4] << 8 | b;
        }
        return numbers;
    }

    static byte[] bytes(String text) {
        return text.getBytes(java.nio.charset.StandardCharsets.ISO_8859_1);
    }

    static void feed(SnowHouse x, byte[] text) {
        int[] n = numbers(text);
        for (int i = 0; i < n.length; i += 5) {
            x.feed(n[i], n[i + 1], n[i + 2], n[i + 3], n[i + 4]);
        }
        x.end(text.length);
    }

    static int text(SnowHouse x, String text) {
        feed(x, bytes(text));
        return x.text();
    }

    /** A new object that has been told a text. */
    static SnowHouse told(String text) {
        SnowHouse x = new SnowHouse();
        text(x, text);
        return x;
    }

    /** As told, and an evening of so many minutes let go. */
    static SnowHouse ran(String text, int minutes) {
        SnowHouse x = told(text);
        x.run(minutes);
        return x;
    }

    /** A statement so many times, with a, b, c .. for each # in it. */
    static String many(String statement, int times) {
        StringBuilder all = new StringBuilder();
        for (int i = 0; i < times; i++) {
            all.append(statement.replace('#', (char) ('a' + i)));
        }
        return all.toString();
    }

    /** A text is whole: so many statements. */
    void whole(String text, int statements) {
        SnowHouse x = new SnowHouse();
        due("text of " + text, text(x, text), statements);
        due("fault(0) of " + text, x.fault(0), 0);
        due("fault(1) of " + text, x.fault(1), -1);
    }

    /** A text has a fault, at the place of the mark ^ in it, which is no part of it. */
    void faulty(String marked, int kind) {
        int place = marked.indexOf('^');
        String text = marked.substring(0, place) + marked.substring(place + 1);
        SnowHouse x = new SnowHouse();
        due("text of " + marked, text(x, text), -1);
        due("fault(0) of " + marked, x.fault(0), kind);
        due("fault(1) of " + marked, x.fault(1), place);
    }
}
