import java.lang.reflect.Constructor;
import java.lang.reflect.Field;
import java.lang.reflect.Method;
import java.lang.reflect.Modifier;
import java.nio.charset.StandardCharsets;
import java.nio.file.Files;
import java.nio.file.Path;
import java.util.Arrays;
import java.util.HashSet;
import java.util.List;
import java.util.Set;
import java.util.regex.Matcher;
import java.util.regex.Pattern;

/** LANGUAGE.md's rules about the class: those that its source and its members tell. Run from the project's folder. */
public final class LanguageTest {
    private static final String SOURCE = "src/main/java/DeadUnderstudies.java";
    private static final int METHOD_LINES = 60;
    private static final String KEYWORDS = "throw|throws|try|catch|finally|synchronized|assert|volatile|native|package";
    private static final Set<String> LIBRARY = Set.of("Arrays.fill", "Arrays.copyOf", "Arrays.copyOfRange",
        "System.arraycopy", "Math.max", "Math.min", "Math.abs", "Math.floorDiv", "Math.floorMod", "Integer.bitCount",
        "Integer.compare", "Long.bitCount", "Long.compare", "List.of");
    private static final Set<String> TYPES = Set.of("String", "StringBuilder", "Integer", "Long", "Math", "System",
        "Arrays", "ArrayList", "List", "Iterator", "Iterable", "Comparable", "DeadUnderstudies");

    private static final Set<String> classNames = new HashSet<>();

    public static void main(String[] args) throws Exception {
        members(DeadUnderstudies.class);
        for (Class<?> inner : DeadUnderstudies.class.getDeclaredClasses()) members(inner);
        Checks.due("classes in the file", DeadUnderstudies.class.getDeclaredClasses().length < 12 ? 1 : 0, 1);
        String source = Files.readString(Path.of(SOURCE), StandardCharsets.ISO_8859_1);
        Checks.due("signs that are not of 1 to 127", source.chars().filter(c -> c < 1 || c > 127).count(), 0);
        String code = withoutTexts(source);
        words(code);
        methods(code);
        Checks.close();
    }

    private static void none(String what, String code, String pattern) {
        Matcher m = Pattern.compile(pattern).matcher(code);
        while (m.find()) {
            long line = code.substring(0, m.start()).lines().count() + 1;
            Checks.due(what + " near line " + line + ": " + m.group().trim(), 1, 0);
        }
    }

    /** The source without comments, and with empty Strings and signs, so that only code is left. */
    private static String withoutTexts(String source) {
        Pattern texts = Pattern.compile("/\\*.*?\\*/|//[^\n]*|(\"(?:[^\"\\\\\n]|\\\\.)*\")|('(?:[^'\\\\\n]|\\\\.)')", Pattern.DOTALL);
        return texts.matcher(source).replaceAll(m -> {
            if (m.group(1) != null) return "\"\"";
            if (m.group(2) != null) return "'0'";
            return "\n".repeat((int) m.group().chars().filter(c -> c == '\n').count());
        });
    }

    private static void words(String code) {
        none("rule 6, a word", code, "\\b(" + KEYWORDS + ")\\b");
        none("rule 2, a lambda or method reference", code, "->|::");
        none("rule 2, an anonymous class", code, "\\bnew \\w+\\([^;{]*\\)\\s*\\{");
        none("rule 4, an import", code, "(?m)^import (?!java\\.util\\.(Arrays|ArrayList|List|Iterator);).*");
        none("rule 5, a static block", code, "\\bstatic\\s*\\{");
        none("rule 9, a text joined by +", code, "\"\"\\s*\\+|\\+\\s*\"\"");
        none("rule 9, a loop without a condition", code, "while \\(true\\)|for \\([^;]*;\\s*;");
        Matcher call = Pattern.compile("\\b(System|Arrays|Math|Integer|Long|List|String)\\.(\\w+)").matcher(code);
        while (call.find()) {
            boolean known = LIBRARY.contains(call.group()) || code.startsWith("import java.util.", Math.max(0, call.start() - 17));
            Checks.due("rule 4, " + call.group(), known ? 1 : 0, 1);
        }
        Matcher name = Pattern.compile("\\b[A-Z][a-z]\\w*").matcher(code);
        while (name.find()) {
            boolean known = TYPES.contains(name.group()) || classNames.contains(name.group());
            Checks.due("rule 3, the type " + name.group(), known ? 1 : 0, 1);
        }
    }

    /** Rule 11: methods stay short. Rule 12: what is kept is made with the object, so no method has a "new". */
    private static void methods(String code) {
        List<String> lines = code.lines().toList();
        Pattern head = Pattern.compile("( {4}| {8})(?:(?:public|private|static) )*[\\w\\[\\]]+ \\w+\\(.*\\) \\{");
        int found = 0;
        for (int i = 0; i < lines.size(); i++) {
            Matcher m = head.matcher(lines.get(i));
            if (!m.matches()) continue;
            found++;
            int last = i;
            while (!lines.get(last).equals(m.group(1) + "}")) last++;
            Checks.due("rule 11, short: " + m.group().trim(), last - i < METHOD_LINES ? 1 : 0, 1);
            String body = String.join("\n", lines.subList(i + 1, last));
            Checks.due("rule 12, nothing new: " + m.group().trim(), Pattern.compile("\\bnew\\b").matcher(body).find() ? 1 : 0, 0);
            i = last;
        }
        Checks.due("methods were found", found > 150 ? 1 : 0, 1);
    }

    /** Rules 1, 2, 5 and 11: no method with a name of the face's, no state outside objects, few numbers and fields. */
    private static void members(Class<?> c) {
        classNames.add(c.getSimpleName());
        boolean isFace = c == DeadUnderstudies.class;
        Set<String> face = new HashSet<>();
        for (Method m : DeadUnderstudies.class.getDeclaredMethods()) if (Modifier.isPublic(m.getModifiers())) face.add(m.getName());
        for (Method m : c.getDeclaredMethods()) {
            boolean isOfFace = isFace && Modifier.isPublic(m.getModifiers());
            Checks.due(c.getName() + "." + m.getName() + " has a name of the face", face.contains(m.getName()) && !isOfFace ? 1 : 0, 0);
            Checks.due(c.getName() + "." + m.getName() + " has few numbers", m.getParameterCount() <= 7 ? 1 : 0, 1);
        }
        for (Constructor<?> made : c.getDeclaredConstructors()) {
            Checks.due(c.getName() + " is made with few numbers", made.getParameterCount() <= 7 ? 1 : 0, 1);
        }
        Field[] fields = c.getDeclaredFields();
        long own = Arrays.stream(fields).filter(f -> !Modifier.isStatic(f.getModifiers())).count();
        Checks.due(c.getName() + " has few fields", own <= 20 ? 1 : 0, 1);
        for (Field f : fields) {
            boolean open = Modifier.isStatic(f.getModifiers()) && !Modifier.isFinal(f.getModifiers());
            Checks.due(c.getName() + "." + f.getName() + " is static state", open ? 1 : 0, 0);
        }
        Checks.due(c.getName() + " is static", isFace || Modifier.isStatic(c.getModifiers()) ? 1 : 0, 1);
    }
}
