import java.lang.reflect.InvocationTargetException;
import java.lang.reflect.Method;
import java.util.Arrays;
import java.util.Comparator;
import java.util.function.IntUnaryOperator;

/** What the tests share: calls counted that do not answer what is due, and TEXTS put on a TAPE. */
final class Checks {
    private static int wrong = 0;
    private static String sentence = "";

    private Checks() {
    }

    static void due(String call, long got, long want) {
        if (got == want) return;
        wrong++;
        System.out.println(sentence + call + " answered " + got + ", due is " + want);
    }

    /** Runs each method of a class that is told "promise N" by its name: so none can be left out by oversight. */
    static void sentences(Class<?> tests) {
        Method[] methods = tests.getDeclaredMethods();
        Arrays.sort(methods, Comparator.comparing(Method::getName));
        for (Method m : methods) {
            if (!m.getName().matches("[pt][0-9]+[A-Z].*")) continue;
            sentence = tests.getName() + "." + m.getName() + ": ";
            try {
                m.setAccessible(true);
                m.invoke(null);
            } catch (InvocationTargetException e) {
                e.getCause().printStackTrace(System.out);
                due("it threw: it", 1, 0);
            } catch (IllegalAccessException e) {
                due("it could not be run: it", 1, 0);
            }
        }
        close();
    }

    /** A call that is taken: its answer, and no status. */
    static void taken(DeadUnderstudies x, String call, long got, long want) {
        due(call, got, want);
        due("status behind " + call, x.status(), 0);
    }

    /** A call that is REFUSED: it is answered by that, status tells it, and the count of just that goes up. */
    static void refused(DeadUnderstudies x, String call, IntUnaryOperator made, int by) {
        int[] before = refusals(x);
        due(call, made.applyAsInt(0), by);
        due("status behind " + call, x.status(), by);
        int[] behind = refusals(x);
        int[] numbers = {-1, -2, -3, -5, -6};
        for (int i = 0; i < 5; i++) {
            due("how many were REFUSED by " + numbers[i] + " behind " + call, behind[i] - before[i], numbers[i] == by ? 1 : 0);
        }
    }

    /** A number of a call that goes from low to high: those are taken, others REFUSED by -1. */
    static void range(DeadUnderstudies x, String call, IntUnaryOperator made, int low, int high) {
        for (int number : new int[] {low, high}) {
            made.applyAsInt(number);
            due("status behind " + call + " " + number, x.status(), 0);
        }
        tooFar(x, call, made, low, high);
    }

    /** Numbers below low and above high are REFUSED by -1. */
    static void tooFar(DeadUnderstudies x, String call, IntUnaryOperator made, int low, int high) {
        for (int number : new int[] {low - 1, high + 1, Integer.MIN_VALUE, Integer.MAX_VALUE}) {
            refused(x, call + " " + number, ignored -> made.applyAsInt(number), -1);
        }
    }

    /** An answer of NONE for numbers below low and above high, and another one for both of these. */
    static void noneBeyond(String call, IntUnaryOperator made, int low, int high) {
        for (int number : new int[] {low, high}) {
            due(call + " " + number + " is NONE", made.applyAsInt(number) == -1 ? 1 : 0, 0);
        }
        noneOutside(call, made, low, high);
    }

    /** An answer of NONE for numbers below low and above high. */
    static void noneOutside(String call, IntUnaryOperator made, int low, int high) {
        for (int number : new int[] {low - 1, high + 1, Integer.MIN_VALUE, Integer.MAX_VALUE}) {
            due(call + " " + number, made.applyAsInt(number), -1);
        }
    }

    private static int[] refusals(DeadUnderstudies x) {
        int[] counts = new int[5];
        for (int i = 0; i < 5; i++) counts[i] = x.count(7 + i);
        return counts;
    }

    /** Ends the test: with exit code 1, if a call was not answered as due. */
    static void close() {
        if (wrong == 0) return;
        System.out.println(wrong + " answers are not as due");
        System.exit(1);
    }

    /** The numbers that feed the bytes of a TEXT, blanks behind it, by fives. */
    static int[] numbers(String text) {
        int[] numbers = new int[(text.length() + 19) / 20 * 5];
        for (int i = 0; i < numbers.length * 4; i++) {
            int sign = i < text.length() ? text.charAt(i) : ' ';
            numbers[i / 4] = numbers[i / 4] << 8 | sign;
        }
        return numbers;
    }

    /** Puts just a TEXT on the TAPE. */
    static void tape(DeadUnderstudies x, String text) {
        x.end(0);
        int[] n = numbers(text);
        for (int i = 0; i < n.length; i += 5) x.feed(n[i], n[i + 1], n[i + 2], n[i + 3], n[i + 4]);
        due("end at the length of: " + text, x.end(text.length()), text.length());
    }

    static int play(DeadUnderstudies x, int part, String text) {
        tape(x, text);
        return x.play(part);
    }

    static int law(DeadUnderstudies x, String text) {
        tape(x, text);
        return x.law();
    }

    /** The FAULT of a TEXT read as a PLAY on PART 0. */
    static int faultOfPlay(DeadUnderstudies x, String text) {
        int answer = play(x, 0, text);
        due("play is refused or not: " + text, answer == -6 ? 1 : 0, x.fault() == -1 ? 0 : 1);
        return x.fault();
    }

    /** The FAULT of a TEXT read as a LAW. */
    static int faultOfLaw(DeadUnderstudies x, String text) {
        int answer = law(x, text);
        due("law is refused or not: " + text, answer == -6 ? 1 : 0, x.fault() == -1 ? 0 : 1);
        return x.fault();
    }
}
