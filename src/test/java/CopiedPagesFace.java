import java.lang.reflect.Constructor;
import java.lang.reflect.Field;
import java.lang.reflect.Member;
import java.lang.reflect.Method;
import java.lang.reflect.Modifier;
import java.util.Arrays;
import java.util.TreeSet;

/** The public face is the document's, and nothing else of the class can be seen from outside. */
public final class CopiedPagesFace {
    private static final String[] FACE = {
        "int feed(int,int,int,int,int)", "boolean end(int)", "int work()", "int law()", "int fault()",
        "int page(int,int)", "int entry(int,int,boolean)", "int head(int,int)", "int reader(int)",
        "int change(int,int)", "int ticks(int)", "int put(int,int)", "int forget()", "int commit()",
        "boolean cut(int)", "boolean store()", "int open(int)", "int close(int)", "int risk(int)",
        "int value(int,int)", "int tree(int,int)", "int rank(int,int)", "int sum(int,int,int)",
        "int common(int,int)", "int unlike(int,int)", "int would(int)", "int comes()", "int many(int)",
        "int precious(boolean)", "int seen()", "int likely()", "int look()", "int pairs(int)",
        "int share(int,int)", "int rests()", "int most(int)", "int trial(int,boolean)", "int span(int,boolean)",
        "int led(int,boolean)", "int log(int,int)", "int seed(int)", "boolean undo()", "void image()",
        "boolean back()", "int count(int)"};
    private static int wrong = 0;

    private static void due(String what, boolean holds) {
        if (!holds) {
            wrong++;
            System.out.println("not so: " + what);
        }
    }

    private static String signature(Method m) {
        StringBuilder b = new StringBuilder(m.getReturnType().getName()).append(' ').append(m.getName()).append('(');
        for (int i = 0; i < m.getParameterCount(); i++) {
            b.append(i > 0 ? "," : "").append(m.getParameterTypes()[i].getName());
        }
        return b.append(')').toString();
    }

    private static boolean isHidden(Member m) {
        return Modifier.isPrivate(m.getModifiers());
    }

    public static void main(String[] args) throws Exception {
        Class<?> c = CopiedPages.class;
        due("public final class", Modifier.isPublic(c.getModifiers()) && Modifier.isFinal(c.getModifiers()));
        TreeSet<String> names = new TreeSet<>();
        TreeSet<String> seen = new TreeSet<>();
        for (Method m : c.getDeclaredMethods()) {
            if (Modifier.isPublic(m.getModifiers())) {
                seen.add(signature(m));
                names.add(m.getName());
            } else {
                due(m + " is private", isHidden(m));
            }
        }
        due("the methods are " + Arrays.toString(FACE), seen.equals(new TreeSet<>(Arrays.asList(FACE))));
        for (Class<?> inside : c.getDeclaredClasses()) {
            due(inside + " is private and static",
                    Modifier.isPrivate(inside.getModifiers()) && Modifier.isStatic(inside.getModifiers()));
            for (Method m : inside.getDeclaredMethods()) {
                due(m + " bears a name of its own", !names.contains(m.getName()));
            }
        }
        for (Method m : c.getDeclaredMethods()) {
            due(m + " bears a name of its own", !isHidden(m) || !names.contains(m.getName()));
        }
        for (Field f : c.getDeclaredFields()) {
            due(f + " is private", isHidden(f) || f.getName().equals("NONE"));
            due(f + " is final if static", !Modifier.isStatic(f.getModifiers()) || Modifier.isFinal(f.getModifiers()));
        }
        due("NONE is public", Modifier.isPublic(c.getField("NONE").getModifiers()));
        Constructor<?>[] made = c.getDeclaredConstructors();
        due("one constructor", made.length == 1 && made[0].getParameterCount() == 0
                && Modifier.isPublic(made[0].getModifiers()));
        System.out.println("the face has " + seen.size() + " methods, " + wrong + " faults");
        if (wrong > 0) {
            System.exit(1);
        }
    }
}
