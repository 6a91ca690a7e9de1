import java.lang.reflect.Constructor;
import java.lang.reflect.Field;
import java.lang.reflect.Method;
import java.lang.reflect.Modifier;
import java.util.Arrays;
import java.util.Set;
import java.util.TreeSet;

/** The public face is the document's, and nothing else of the class can be seen from outside. */
public final class FaceTest {
    private static final String[] FACE = {
        "public static final int NONE = -1",
        "public static final int RANGE = -2",
        "public static final int STATE = -3",
        "public static final int FULL = -4",
        "public LibraryDisk(int)",
        "public void LibraryDisk.add(int)",
        "public int LibraryDisk.end(int)",
        "public int LibraryDisk.sync()",
        "public int LibraryDisk.cut(int,int)",
        "public int LibraryDisk.off()",
        "public int LibraryDisk.start()",
        "public int LibraryDisk.rows()",
        "public int LibraryDisk.row(int,int)",
        "public int LibraryDisk.at(int,int) throws java.lang.ArrayIndexOutOfBoundsException",
        "public int LibraryDisk.poke(int,int,int)",
        "public int LibraryDisk.peek(int,int)",
        "public int LibraryDisk.wrong(int)",
        "public int LibraryDisk.bad()",
        "public int LibraryDisk.backup()",
        "public int LibraryDisk.restore()",
        "public int LibraryDisk.differ()",
        "public int LibraryDisk.state(int)",
    };

    public static void main(String[] args) throws IllegalAccessException {
        Set<String> due = new TreeSet<>(Arrays.asList(FACE));
        Set<String> seen = new TreeSet<>();
        Set<String> publicNames = new TreeSet<>();
        for (Field f : LibraryDisk.class.getDeclaredFields()) {
            if (!Modifier.isPrivate(f.getModifiers())) {
                seen.add(Modifier.toString(f.getModifiers()) + " int " + f.getName() + " = " + f.getInt(null));
            } else if (Modifier.isStatic(f.getModifiers())) {
                told("a static field that is not final: " + f, Modifier.isFinal(f.getModifiers()));
            }
        }
        for (Constructor<?> c : LibraryDisk.class.getDeclaredConstructors()) {
            seen.add(c.toString());
        }
        for (Method m : LibraryDisk.class.getDeclaredMethods()) {
            if (!Modifier.isPrivate(m.getModifiers())) {
                seen.add(m.toString());
                publicNames.add(m.getName());
            }
        }
        for (Method m : LibraryDisk.class.getDeclaredMethods()) {
            told("a private method with a public name: " + m,
                !Modifier.isPrivate(m.getModifiers()) || !publicNames.contains(m.getName()));
        }
        for (Class<?> c : LibraryDisk.class.getDeclaredClasses()) {
            told("a class inside that is public or not static: " + c,
                Modifier.isStatic(c.getModifiers()) && !Modifier.isPublic(c.getModifiers()));
        }
        told("the face is " + seen + ", due is " + due, seen.equals(due));
        told("the class is public and final",
            LibraryDisk.class.getModifiers() == (Modifier.PUBLIC | Modifier.FINAL));
        Check.finish();
    }

    private static void told(String what, boolean right) {
        Check.part("the face");
        Check.same(what, right ? 1 : 0, 1);
    }
}
