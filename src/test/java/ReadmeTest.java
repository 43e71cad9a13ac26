import java.lang.reflect.Method;
import java.nio.file.Files;
import java.nio.file.Path;
import java.util.Arrays;
import java.util.HashMap;
import java.util.Map;
import java.util.regex.Matcher;
import java.util.regex.Pattern;

/** README.md's example: each call of it answers what is told behind it. Run from the project's folder. */
public final class ReadmeTest {
    private static final Pattern CALL = Pattern.compile("(?:int (\\w+) = )?x\\.(\\w+)\\(([^)]*)\\); +// (-?\\d+).*");
    private static final Map<String, Integer> names = new HashMap<>();

    public static void main(String[] args) throws Exception {
        names.put("NONE", DeadUnderstudies.NONE);
        names.put("DeadUnderstudies.NONE", DeadUnderstudies.NONE);
        DeadUnderstudies x = new DeadUnderstudies();
        int calls = 0;
        for (String line : Files.readAllLines(Path.of("README.md"))) {
            Matcher call = CALL.matcher(line);
            if (call.matches()) {
                answer(x, call);
                calls++;
            } else {
                Checks.due("README.md, a call without an answer: " + line, line.matches("(int \\w+ = )?x\\..*") ? 1 : 0, 0);
            }
        }
        Checks.due("README.md has calls", calls >= 20 ? 1 : 0, 1);
        Checks.close();
    }

    private static void answer(DeadUnderstudies x, Matcher call) throws Exception {
        Method method = Arrays.stream(DeadUnderstudies.class.getMethods())
            .filter(m -> m.getName().equals(call.group(2))).findFirst().orElseThrow();
        Object[] numbers = Arrays.stream(call.group(3).split(", *")).filter(n -> !n.isEmpty()).map(ReadmeTest::number).toArray();
        long got = ((Number) method.invoke(x, numbers)).longValue();
        Checks.due("README.md, " + call.group().trim(), got, Long.parseLong(call.group(4)));
        if (call.group(1) != null) names.put(call.group(1), (int) got);
    }

    private static Object number(String told) {
        if (names.containsKey(told)) return names.get(told);
        return told.startsWith("0x") ? Integer.parseUnsignedInt(told.substring(2), 16) : Integer.parseInt(told);
    }
}
