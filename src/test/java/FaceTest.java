import java.lang.reflect.Constructor;
import java.lang.reflect.Field;
import java.lang.reflect.Member;
import java.lang.reflect.Method;
import java.lang.reflect.Modifier;
import java.util.Arrays;
import java.util.TreeSet;

/** The face of the document, and nothing beside it (rule 1 of LANGUAGE.md). */
public final class FaceTest {
    private static final String[] FACE = {"feed 5", "end 1", "kiln 0", "rule 0", "force 1", "chamber 2", "clay 2",
        "order 2", "day 0", "set 2", "draw 1", "light 1", "buy 1", "send 1", "undo 0", "ahead 3", "out 0", "comes 1",
        "ripe 1", "spoilt 1", "cold 1", "goods 1", "row 3", "plan 3", "meet 1", "late 0", "need 2", "damp 2",
        "rests 4", "alike 1", "pence 2", "note 2", "ruled 1", "look 1", "seed 1", "rains 4", "count 1", "image 1",
        "back 1"};

    public static void main(String[] args) {
        Class<?> face = RingKiln.class;
        Due.is("methods of the face", FACE.length, 39);
        Due.holds("public", Modifier.isPublic(face.getModifiers()));
        Due.holds("final", Modifier.isFinal(face.getModifiers()));
        TreeSet<String> found = new TreeSet<>();
        TreeSet<String> names = new TreeSet<>();
        for (String method : FACE) {
            names.add(method.substring(0, method.indexOf(' ')));
        }
        for (Method m : face.getDeclaredMethods()) {
            if (!Modifier.isPrivate(m.getModifiers())) {
                found.add(m.getName() + " " + m.getParameterCount());
                Due.holds("public " + m, Modifier.isPublic(m.getModifiers()) && !Modifier.isStatic(m.getModifiers()));
                Due.holds("int " + m, m.getReturnType() == int.class);
                for (Class<?> p : m.getParameterTypes()) {
                    Due.holds("ints " + m, p == int.class);
                }
            } else {
                Due.holds("a name of its own: " + m, !names.contains(m.getName()));
            }
        }
        Due.holds("the methods " + found, found.equals(new TreeSet<>(Arrays.asList(FACE))));
        Constructor<?>[] constructors = face.getDeclaredConstructors();
        Due.is("constructors", constructors.length, 1);
        Due.holds("public constructor", Modifier.isPublic(constructors[0].getModifiers()));
        Due.is("its parameters", constructors[0].getParameterCount(), 0);
        int open = 0;
        for (Field f : face.getDeclaredFields()) {
            open += isOpen(f) ? 1 : 0;
            Due.holds("static is final: " + f, !Modifier.isStatic(f.getModifiers()) || Modifier.isFinal(f.getModifiers()));
        }
        Due.is("open fields: NONE", open, 1);
        Due.is("NONE", RingKiln.NONE, -1);
        Class<?>[] inside = face.getDeclaredClasses();
        Due.holds("some twelve classes", inside.length + 1 <= 12);
        for (Class<?> c : inside) {
            Due.holds("static " + c, Modifier.isStatic(c.getModifiers()));
            Due.holds("closed " + c, !Modifier.isPublic(c.getModifiers()) && !Modifier.isProtected(c.getModifiers()));
            int own = 0;
            for (Field f : c.getDeclaredFields()) {
                boolean fixed = Modifier.isStatic(f.getModifiers());
                own += fixed ? 0 : 1;
                Due.holds("static is final: " + f, !fixed || Modifier.isFinal(f.getModifiers()));
            }
            Due.holds("some twenty fields in " + c, own <= 20);
            for (Method m : c.getDeclaredMethods()) {
                Due.holds("seven parameters: " + m, m.getParameterCount() <= 7);
                Due.holds("a name of its own: " + m, !names.contains(m.getName()));
            }
        }
        Due.end();
    }

    private static boolean isOpen(Member m) {
        return !Modifier.isPrivate(m.getModifiers());
    }
}
