import java.lang.reflect.Constructor;
import java.lang.reflect.Field;
import java.lang.reflect.Method;
import java.lang.reflect.Modifier;
import java.util.ArrayList;
import java.util.Collections;
import java.util.List;
import java.util.Set;
import java.util.TreeSet;

/** The class has the face of the document, and no other member that can be seen (rule 1 of LANGUAGE.md). */
public final class FaceTest {
    private static final String I = "IndexOutOfBoundsException";
    private static final String A = "IllegalArgumentException";
    private static final String S = "IllegalStateException";

    public static void main(String[] args) {
        Class<?> face = FireflyInn.class;
        Check.same("public and final", face.getModifiers(), Modifier.PUBLIC | Modifier.FINAL);
        Check.same("what it is made from", face.getSuperclass(), Object.class);
        Check.same("interfaces", face.getInterfaces().length, 0);

        Set<String> due = new TreeSet<>(List.of(
            "int swarm(int,int,int) " + List.of(I, A),
            "int cell(int,int) " + List.of(I),
            "int open(int) " + List.of(A, S),
            "boolean lamp(int) " + List.of(I),
            "int room(int,int) " + List.of(I),
            "boolean isLit(int) " + List.of(I),
            "int stay(int,int,boolean) " + List.of(I, A, S),
            "int move(int,int) " + List.of(I, S),
            "int leave(int) " + List.of(I, S),
            "int hush(int,int) " + List.of(I, A),
            "int guest(int,int) " + List.of(I),
            "int count(int) " + List.of(I),
            "int pass(int) " + List.of(A),
            "int dark(int) " + List.of(A),
            "int foresee(int,int) " + List.of(A, I),
            "int advise(int) " + List.of(A),
            "int harm(int) " + List.of(A),
            "double mean() []",
            "long digest() []"));
        Set<String> names = new TreeSet<>();
        Set<String> shown = new TreeSet<>();
        List<String> hidden = new ArrayList<>();
        for (Method m : face.getDeclaredMethods()) {
            if (Modifier.isPrivate(m.getModifiers())) {
                hidden.add(m.getName());
            } else {
                Check.same(m.getName() + " is public", m.getModifiers(), Modifier.PUBLIC);
                shown.add(written(m));
                names.add(m.getName());
            }
        }
        Check.same("the methods", shown, due);
        Check.same("no private method bears a public name", Collections.disjoint(hidden, names), true);

        Constructor<?>[] made = face.getDeclaredConstructors();
        Check.same("constructors", made.length, 1);
        Check.same("the constructor is public", made[0].getModifiers(), Modifier.PUBLIC);
        Check.same("the constructor's parameters", made[0].getParameterCount(), 0);

        for (Field f : face.getDeclaredFields()) {
            Check.same(f.getName() + " is private", Modifier.isPrivate(f.getModifiers()), true);
        }
        for (Class<?> inside : face.getDeclaredClasses()) {
            int how = inside.getModifiers();
            Check.same(inside.getName() + " is static", Modifier.isStatic(how), true);
            Check.same(inside.getName() + " is hidden", Modifier.isPublic(how) || Modifier.isProtected(how), false);
        }
        Check.end();
    }

    private static String written(Method m) {
        StringBuilder text = new StringBuilder(m.getReturnType() + " " + m.getName() + "(");
        for (Class<?> p : m.getParameterTypes()) {
            text.append(text.charAt(text.length() - 1) == '(' ? "" : ",").append(p);
        }
        List<String> thrown = new ArrayList<>();
        for (Class<?> e : m.getExceptionTypes()) {
            thrown.add(e.getSimpleName());
        }
        return text.append(") ").append(thrown).toString();
    }
}
