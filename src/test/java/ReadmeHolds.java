import java.io.IOException;
import java.lang.reflect.InvocationTargetException;
import java.lang.reflect.Method;
import java.lang.reflect.Modifier;
import java.nio.file.Files;
import java.nio.file.Path;
import java.util.List;
import java.util.TreeMap;
import java.util.regex.Matcher;
import java.util.regex.Pattern;

/**
 * README.md says no more than holds: each call of its example answers as it is told there, and its table has every
 * method of the face with the exceptions that it throws, in their order. Run where README.md is.
 */
public final class ReadmeHolds {
    private static final Pattern CALL = Pattern.compile("x\\.(\\w+)\\(([^)]*)\\);\\s*// (\\w+|-\\d+)\\b.*");
    private static final Pattern ROW = Pattern.compile("\\| `(\\w+)\\(([^)]*)\\)` \\|[^|]*\\|(.*)\\|");
    private static final Pattern EXCEPTION = Pattern.compile("\\b\\w+Exception\\b");
    private static int asked = 0;
    private static int wrong = 0;

    private static void due(String what, String got, String want) {
        asked++;
        if (!got.equals(want)) {
            wrong++;
            System.out.println(what + ": " + got + ", README.md has " + want);
        }
    }

    private static TreeMap<String, Method> face() {
        TreeMap<String, Method> face = new TreeMap<>();
        for (Method m : CopiedPages.class.getDeclaredMethods()) {
            if (Modifier.isPublic(m.getModifiers())) {
                face.put(m.getName(), m);
            }
        }
        return face;
    }

    private static Object[] arguments(Method m, String told) {
        String[] words = told.isEmpty() ? new String[0] : told.split(", *");
        Object[] given = new Object[words.length];
        for (int i = 0; i < words.length; i++) {
            boolean isTruth = m.getParameterTypes()[i] == boolean.class;
            given[i] = isTruth ? (Object) Boolean.valueOf(words[i]) : (Object) Integer.valueOf(words[i]);
        }
        return given;
    }

    private static String answer(CopiedPages x, Method m, String told) throws IllegalAccessException {
        try {
            String got = String.valueOf(m.invoke(x, arguments(m, told)));
            return got.equals("-1") ? "NONE" : got;
        } catch (InvocationTargetException e) {
            return String.valueOf(e.getCause());
        }
    }

    private static void example(List<String> lines, TreeMap<String, Method> face) throws IllegalAccessException {
        CopiedPages x = new CopiedPages();
        for (String line : lines) {
            Matcher call = CALL.matcher(line);
            if (call.matches() && face.containsKey(call.group(1))) {
                due(line, answer(x, face.get(call.group(1)), call.group(2)), call.group(3));
            } else if (line.startsWith("x.")) {
                due(line, "no call with an answer", "one");
            }
        }
    }

    private static String thrown(Method m) {
        StringBuilder b = new StringBuilder();
        for (Class<?> told : m.getExceptionTypes()) {
            b.append(told.getSimpleName()).append(' ');
        }
        return b.toString();
    }

    private static void table(List<String> lines, TreeMap<String, Method> face) {
        int rows = 0;
        for (String line : lines) {
            Matcher row = ROW.matcher(line);
            if (row.matches()) {
                rows++;
                Method m = face.get(row.group(1));
                StringBuilder told = new StringBuilder();
                Matcher exception = EXCEPTION.matcher(row.group(3));
                while (exception.find()) {
                    told.append(exception.group()).append(' ');
                }
                due(row.group(1) + " throws", m == null ? "no such call" : thrown(m), told.toString());
                int parameters = row.group(2).isEmpty() ? 0 : row.group(2).split(",").length;
                due(row.group(1) + " takes", m == null ? "" : "" + m.getParameterCount(), "" + parameters);
            }
        }
        due("calls", "" + face.size(), "" + rows);
    }

    public static void main(String[] args) throws IOException, IllegalAccessException {
        List<String> lines = Files.readAllLines(Path.of("README.md"));
        example(lines, face());
        table(lines, face());
        System.out.println(asked + " things that README.md says, " + wrong + " wrong");
        if (wrong > 0 || asked < 100) {
            System.exit(1);
        }
    }
}
