import java.lang.reflect.Constructor;
import java.lang.reflect.Field;
import java.lang.reflect.Method;
import java.lang.reflect.Modifier;
import java.util.Set;
import java.util.TreeSet;

/** The public face: exactly the members of the document, and no other that is not private. */
public final class FaceTest {
    public static void main(String[] args) {
        Expect expect = new Expect();
        Class<?> face = CutProofs.class;
        expect.due("public final", 1, Modifier.isPublic(face.getModifiers()) && Modifier.isFinal(face.getModifiers()) ? 1 : 0);
        expect.due("NONE", -1, CutProofs.NONE);
        expect.due("BAD", -2, CutProofs.BAD);
        expect.due("FULL", -4, CutProofs.FULL);
        expect.due("fields", "[BAD int, FULL int, NONE int]", openFields(face).toString());
        expect.due("methods", "[best() int, check(int) int, clear() void, closed() int, cut(int,int,int) int,"
            + " factor(int,int,int) int, find(int) int, holds(int) int, name(int,int) int,"
            + " plans() int, plant(int,int,int,int) int, point(int,int,int) int, proof(int,int,int) int,"
            + " row(int) int, strength(int,int) long, told(int) int, turn() int]", openMethods(face).toString());
        expect.due("constructors", 1, openConstructors(face));
        expect.end();
    }

    private static Set<String> openFields(Class<?> face) {
        Set<String> found = new TreeSet<>();
        for (Field f : face.getDeclaredFields()) {
            if (!Modifier.isPrivate(f.getModifiers())) found.add(f.getName() + " " + f.getType());
        }
        return found;
    }

    private static Set<String> openMethods(Class<?> face) {
        Set<String> found = new TreeSet<>();
        for (Method m : face.getDeclaredMethods()) {
            if (Modifier.isPrivate(m.getModifiers()) || m.isSynthetic()) continue;
            StringBuilder text = new StringBuilder(m.getName()).append('(');
            for (Class<?> p : m.getParameterTypes()) {
                if (text.charAt(text.length() - 1) != '(') text.append(',');
                text.append(p);
            }
            found.add(text.append(") ").append(m.getReturnType()).toString());
        }
        return found;
    }

    private static int openConstructors(Class<?> face) {
        int open = 0;
        for (Constructor<?> c : face.getDeclaredConstructors()) {
            if (Modifier.isPublic(c.getModifiers()) && c.getParameterCount() == 0) open++;
            else if (!Modifier.isPrivate(c.getModifiers())) open = 99;
        }
        return open;
    }
}
