import java.lang.reflect.InvocationTargetException;
import java.lang.reflect.Method;
import java.lang.reflect.Modifier;
import java.util.Arrays;
import java.util.Random;

/** No call throws, whatever its numbers are; and the face is the document's, no more. */
public final class AnyNumbersTest {
    private static final int[] EDGES = {Integer.MIN_VALUE, Integer.MIN_VALUE + 1, -1000, -2, -1, 0, 1, 2, 3, 5, 6, 8, 9,
        10, 11, 12, 20, 24, 36, 99, 100, 300, 400, 1000000, Integer.MAX_VALUE - 1, Integer.MAX_VALUE};

    public static void main(String[] args) throws Exception {
        face();
        Method[] methods = DeadUnderstudies.class.getDeclaredMethods();
        Arrays.sort(methods, (a, b) -> a.getName().compareTo(b.getName()));
        for (int seed = 0; seed < 60; seed++) run(new Random(seed), methods);
        Checks.close();
    }

    private static void run(Random random, Method[] methods) throws Exception {
        DeadUnderstudies x = new DeadUnderstudies();
        int likely = 1 + random.nextInt(12);
        for (int i = 0; i < 3000; i++) {
            Method m = methods[random.nextInt(methods.length)];
            if (!Modifier.isPublic(m.getModifiers())) continue;
            Object[] numbers = new Object[m.getParameterCount()];
            for (int k = 0; k < numbers.length; k++) {
                int kind = random.nextInt(12);
                numbers[k] = kind == 0 ? EDGES[random.nextInt(EDGES.length)] : kind == 1 ? random.nextInt() : random.nextInt(likely);
            }
            try {
                m.invoke(x, numbers);
            } catch (InvocationTargetException e) {
                e.getCause().printStackTrace(System.out);
                Checks.due(m.getName() + Arrays.toString(numbers) + " threw", 1, 0);
            }
            if (random.nextInt(40) == 0) {
                Checks.tape(x, cut(new Texts(random, i % 2 == 0).draw()));
            }
        }
    }

    private static String cut(String text) {
        return text.substring(0, Math.min(400, text.length()));
    }

    private static void face() {
        Class<?> c = DeadUnderstudies.class;
        Checks.due("public and final", c.getModifiers() & (Modifier.PUBLIC | Modifier.FINAL), Modifier.PUBLIC | Modifier.FINAL);
        long methods = Arrays.stream(c.getDeclaredMethods()).filter(m -> !Modifier.isPrivate(m.getModifiers())).count();
        Checks.due("methods of the face", methods, 48);
        long fields = Arrays.stream(c.getDeclaredFields()).filter(f -> !Modifier.isPrivate(f.getModifiers())).count();
        Checks.due("constants of the face", fields, 1);
        Checks.due("constructors", c.getDeclaredConstructors().length, 1);
        Checks.due("NONE", DeadUnderstudies.NONE, -1);
    }
}
