import java.io.IOException;
import java.lang.reflect.Array;
import java.lang.reflect.Field;
import java.lang.reflect.Modifier;
import java.nio.file.Files;
import java.nio.file.Path;
import java.util.ArrayDeque;
import java.util.IdentityHashMap;
import java.util.List;
import java.util.regex.Matcher;
import java.util.regex.Pattern;

/**
 * The rules of ../shared/LANGUAGE.md that can be read off the source and off one object: what it uses and what it
 * leaves out, how long its methods are, how much an object holds. Run where src is.
 */
public final class CopiedPagesRules {
    private static final String SOURCE = "src/main/java/CopiedPages.java";
    private static final List<String> LIBRARY = List.of("System.arraycopy", "Arrays.copyOf", "Arrays.copyOfRange",
            "Arrays.fill", "Math.min", "Math.max", "Math.abs", "Math.floorMod", "Math.floorDiv", "Integer.bitCount",
            "Integer.compare");
    private static final List<String> IMPORTS = List.of("java.util.Arrays", "java.util.NoSuchElementException",
            "java.util.ArrayList", "java.util.List", "java.util.Iterator");
    private static final List<String> THROWN = List.of("IllegalStateException", "IllegalArgumentException",
            "IndexOutOfBoundsException", "ArithmeticException", "UnsupportedOperationException",
            "NoSuchElementException", "RuntimeException");
    private static int asked = 0;
    private static int wrong = 0;

    private static void due(String what, boolean holds) {
        asked++;
        if (!holds) {
            wrong++;
            System.out.println("not so: " + what);
        }
    }

    /** Comments and written texts are left out, line by line. */
    private static String[] codeLines(String source) {
        String code = source.replaceAll("\"[^\"\n]*\"", "\"\"").replaceAll("//[^\n]*", "");
        Matcher comment = Pattern.compile("/\\*.*?\\*/", Pattern.DOTALL).matcher(code);
        return comment.replaceAll(m -> m.group().replaceAll("[^\n]", "")).split("\n", -1);
    }

    private static void each(String code, String pattern, List<String> allowed, String rule) {
        Matcher m = Pattern.compile(pattern).matcher(code);
        while (m.find()) {
            due(rule + ": " + m.group(1), allowed.contains(m.group(1)));
        }
    }

    private static void words(String code) {
        for (String word : new String[] {"package", "try", "catch", "finally", "synchronized", "assert", "volatile",
            "native", "protected", "double", "float", "Object", "Thread", "goto", "getClass", "hashCode", "toString"}) {
            due("no " + word, !Pattern.compile("\\b" + word + "\\b").matcher(code).find());
        }
        due("no lambda", !code.contains("->"));
        due("no method reference", !code.contains("::"));
        due("no static block", !Pattern.compile("\\bstatic\\s*\\{").matcher(code).find());
        Pattern endless = Pattern.compile("while\\s*\\(true\\)|for\\s*\\([^;]*;\\s*;");
        due("no loop without a bound", !endless.matcher(code).find());
        each(code, "import ([\\w.]+);", IMPORTS, "rule 4, import");
        each(code, "(?<!\\.)\\b((?:System|Arrays|Math|Integer|Long|List)\\.\\w+)", LIBRARY, "rule 4, library");
        each(code, "\\bthrow new (\\w+)\\(", THROWN, "rule 6");
        each(code, "\\bthrow (\\w+)", List.of("new"), "rule 6");
    }

    /** Rows are made once: no method but a constructor makes an object, but for exceptions. */
    private static void made(String[] lines) {
        for (int i = 0; i < lines.length; i++) {
            if (lines[i].contains("new ") && !lines[i].contains("throw new ")) {
                boolean isField = lines[i].matches("\\s*(private )?final [\\w\\[\\]]+ \\w+ = new .*;");
                boolean isMadeOnce = lines[i].matches("\\s*(states|walks)\\[\\w+\\] = new \\w+\\(\\);");
                due("line " + (i + 1) + " makes nothing at a call: " + lines[i].trim(), isField || isMadeOnce);
            }
        }
    }

    /** A method begins with its name and ends with a brace of the same depth; a constructor has no result. */
    private static void methods(String[] lines) {
        Pattern begin = Pattern.compile("\\s*(?:(?:public|private|static|final) )*(?:[\\w\\[\\]]+ )?(\\w+)\\(([^)]*)\\)"
                + "(?: throws [\\w, ]+)? \\{");
        int from = -1;
        String indent = "";
        for (int i = 0; i < lines.length; i++) {
            String line = lines[i];
            if (from < 0 && i + 1 < lines.length && line.matches("    public .*\\)")) {
                line = line + " " + lines[i + 1].trim();
            }
            Matcher m = begin.matcher(line);
            if (from < 0 && m.matches()) {
                from = i;
                indent = line.substring(0, line.length() - line.stripLeading().length());
                due(m.group(1) + " takes seven at most", m.group(2).split(",").length <= 7);
            } else if (from >= 0 && line.equals(indent + "}")) {
                due("line " + (from + 1) + ": a method of sixty lines at most", i - from < 60);
                due("line " + (from + 1) + ": no throw in a constructor",
                        !lines[from].matches("\\s*(public )?[A-Z]\\w*\\(.*") || !has(lines, from, i, "throw"));
                from = -1;
            }
        }
        due("all methods end", from < 0);
    }

    private static boolean has(String[] lines, int from, int to, String word) {
        for (int i = from; i < to; i++) {
            if (lines[i].contains(word)) {
                return true;
            }
        }
        return false;
    }

    private static void classes() {
        Class<?>[] inside = CopiedPages.class.getDeclaredClasses();
        due("twelve classes at most", inside.length + 1 <= 12);
        fields(CopiedPages.class);
        for (Class<?> c : inside) {
            fields(c);
        }
    }

    private static void fields(Class<?> c) {
        int own = 0;
        for (Field f : c.getDeclaredFields()) {
            if (Modifier.isStatic(f.getModifiers())) {
                due(f + " is a constant", Modifier.isFinal(f.getModifiers())
                        && (f.getType().isPrimitive() || f.getType() == String.class));
            } else {
                own++;
            }
        }
        due(c + " has twenty fields at most", own <= 20);
    }

    /** Objects and arrays, and fields and elements, of all that an object holds. */
    private static long[] held(Object from) throws IllegalAccessException {
        long[] counts = new long[2];
        IdentityHashMap<Object, Boolean> met = new IdentityHashMap<>();
        ArrayDeque<Object> open = new ArrayDeque<>();
        open.add(from);
        while (!open.isEmpty()) {
            Object o = open.remove();
            if (met.put(o, true) == null) {
                counts[0]++;
                counts[1] += o.getClass().isArray() ? arrayOf(o, open) : objectOf(o, open);
            }
        }
        return counts;
    }

    private static int arrayOf(Object array, ArrayDeque<Object> open) {
        int length = Array.getLength(array);
        for (int i = 0; i < length && !array.getClass().getComponentType().isPrimitive(); i++) {
            open.add(Array.get(array, i));
        }
        return length;
    }

    private static int objectOf(Object o, ArrayDeque<Object> open) throws IllegalAccessException {
        int own = 0;
        for (Field f : o.getClass().getDeclaredFields()) {
            if (!Modifier.isStatic(f.getModifiers())) {
                own++;
                f.setAccessible(true);
                if (!f.getType().isPrimitive() && f.get(o) != null) {
                    open.add(f.get(o));
                }
            }
        }
        return own;
    }

    /** Twenty objects of one run fit into a tenth of the room. */
    private static void room() throws IllegalAccessException {
        long[] counts = held(new CopiedPages());
        due(counts[0] + " objects and arrays of one object", 20 * counts[0] <= 60000);
        due(counts[1] + " fields and elements of one object", 20 * counts[1] <= 730000);
    }

    public static void main(String[] args) throws IOException, IllegalAccessException {
        String source = Files.readString(Path.of(SOURCE));
        String[] lines = codeLines(source);
        due("characters 1 to 127", source.chars().allMatch(c -> c > 0 && c < 128));
        words(String.join("\n", lines));
        made(lines);
        methods(lines);
        classes();
        room();
        System.out.println(asked + " things that the rules ask, " + wrong + " not so");
        if (wrong > 0 || asked < 200) {
            System.exit(1);
        }
    }
}
