import java.lang.reflect.Constructor;
import java.lang.reflect.Field;
import java.lang.reflect.Member;
import java.lang.reflect.Method;
import java.lang.reflect.Modifier;
import java.util.Arrays;
import java.util.NoSuchElementException;
import java.util.TreeSet;

/** The public face is the document's, and nothing else of the class can be seen from outside. */
public final class CopiedPagesFace {
    /** Behind each method the exceptions that it tells, in their order, by a word of their name. */
    private static final String[] FACE = {
        "int feed(int,int,int,int,int)", "boolean end(int)", "int work() Argument Unsupported State",
        "int law() Argument", "int fault()", "int page(int,int) Index Element", "int entry(int,int,boolean) Index",
        "int head(int,int) Index Element", "int reader(int) Index", "int change(int,int) Element",
        "int ticks(int) Argument", "int put(int,int) Index Argument State", "int forget()", "int commit() State",
        "boolean cut(int) Argument State", "boolean store() State", "int open(int) Index State",
        "int close(int) Index State", "int risk(int) Argument", "int value(int,int) Index State",
        "int tree(int,int) Index Element State", "int rank(int,int) Index State",
        "int sum(int,int,int) Index Argument State", "int common(int,int) Index State",
        "int unlike(int,int) Index State", "int would(int)", "int comes()", "int many(int) Element",
        "int precious(boolean)", "int seen() Argument", "int likely() Argument", "int look() Argument",
        "int pairs(int) Index", "int share(int,int) Index Argument", "int rests()", "int most(int) Element",
        "int trial(int,boolean) Argument", "int span(int,boolean) Argument", "int led(int,boolean) Element",
        "int log(int,int) Element", "int seed(int)", "boolean undo()", "void image()", "boolean back()",
        "int count(int)"};
    private static int wrong = 0;

    private static void due(String what, boolean holds) {
        if (!holds) {
            wrong++;
            System.out.println("not so: " + what);
        }
    }

    private static String signature(Method m) {
        StringBuilder b = new StringBuilder(m.getReturnType().getName()).append(' ').append(m.getName()).append('(');
        for (int i = 0; i < m.getParameterCount(); i++) {
            b.append(i > 0 ? "," : "").append(m.getParameterTypes()[i].getName());
        }
        b.append(')');
        for (Class<?> told : m.getExceptionTypes()) {
            b.append(' ').append(wordOf(told));
        }
        return b.toString();
    }

    private static String wordOf(Class<?> exception) {
        if (exception == IndexOutOfBoundsException.class) {
            return "Index";
        }
        if (exception == NoSuchElementException.class) {
            return "Element";
        }
        if (exception == IllegalArgumentException.class) {
            return "Argument";
        }
        if (exception == IllegalStateException.class) {
            return "State";
        }
        return exception == UnsupportedOperationException.class ? "Unsupported" : exception.getName();
    }

    private static boolean isHidden(Member m) {
        return Modifier.isPrivate(m.getModifiers());
    }

    public static void main(String[] args) throws Exception {
        Class<?> c = CopiedPages.class;
        due("public final class", Modifier.isPublic(c.getModifiers()) && Modifier.isFinal(c.getModifiers()));
        TreeSet<String> names = new TreeSet<>();
        TreeSet<String> seen = new TreeSet<>();
        for (Method m : c.getDeclaredMethods()) {
            if (Modifier.isPublic(m.getModifiers())) {
                seen.add(signature(m));
                names.add(m.getName());
            } else {
                due(m + " is private", isHidden(m));
            }
        }
        due("the methods are " + Arrays.toString(FACE) + ", not " + seen,
                seen.equals(new TreeSet<>(Arrays.asList(FACE))));
        for (Class<?> inside : c.getDeclaredClasses()) {
            due(inside + " is private and static",
                    Modifier.isPrivate(inside.getModifiers()) && Modifier.isStatic(inside.getModifiers()));
            for (Method m : inside.getDeclaredMethods()) {
                due(m + " bears a name of its own", !names.contains(m.getName()));
            }
        }
        for (Method m : c.getDeclaredMethods()) {
            due(m + " bears a name of its own", !isHidden(m) || !names.contains(m.getName()));
        }
        for (Field f : c.getDeclaredFields()) {
            due(f + " is private", isHidden(f) || f.getName().equals("NONE"));
            due(f + " is final if static", !Modifier.isStatic(f.getModifiers()) || Modifier.isFinal(f.getModifiers()));
        }
        Field none = c.getField("NONE");
        due("NONE is a constant of int, -1", none.getType() == int.class && Modifier.isStatic(none.getModifiers())
                && Modifier.isFinal(none.getModifiers()) && none.getInt(null) == -1);
        Constructor<?>[] made = c.getDeclaredConstructors();
        due("one constructor", made.length == 1 && made[0].getParameterCount() == 0
                && Modifier.isPublic(made[0].getModifiers()));
        System.out.println("the face has " + seen.size() + " methods, " + wrong + " faults");
        if (wrong > 0) {
            System.exit(1);
        }
    }
}
