import java.io.IOException;
import java.lang.reflect.Constructor;
import java.lang.reflect.Field;
import java.lang.reflect.Method;
import java.lang.reflect.Modifier;
import java.nio.file.Files;
import java.nio.file.Path;
import java.util.Arrays;
import java.util.Set;
import java.util.TreeSet;

/** The public face, and those rules of LANGUAGE.md that can be read off the class and its file. */
public final class FaceTest {
    private static final String[] FACE = {
        "int about(int,int,int) IndexOutOfBoundsException IllegalArgumentException",
        "void begin(int) IndexOutOfBoundsException IllegalStateException",
        "int clash(int) IndexOutOfBoundsException",
        "int copy(int) IndexOutOfBoundsException UnsupportedOperationException",
        "int count(int) IllegalArgumentException",
        "void cut(int,int,int) IndexOutOfBoundsException IllegalArgumentException",
        "void drop(int) IndexOutOfBoundsException",
        "int end(int) IllegalStateException IndexOutOfBoundsException IllegalArgumentException"
            + " UnsupportedOperationException",
        "int field(int,int,int,int) IllegalStateException IllegalArgumentException",
        "int get(int,int) IndexOutOfBoundsException IllegalArgumentException",
        "int item(int,int,int) IndexOutOfBoundsException IllegalArgumentException",
        "int kept(int) IndexOutOfBoundsException",
        "boolean leave()",
        "int primitive(int,int,int,int,int) IllegalStateException IllegalArgumentException",
        "int put(int,int,int,int) IndexOutOfBoundsException IllegalArgumentException",
        "int record(int) IndexOutOfBoundsException UnsupportedOperationException",
        "int route(int,int,int) IndexOutOfBoundsException",
        "boolean same(int,int) IndexOutOfBoundsException",
        "void set(int,int,int) IndexOutOfBoundsException IllegalArgumentException",
        "int size(int,int) IndexOutOfBoundsException IllegalArgumentException",
        "int translate(int,int) IndexOutOfBoundsException IllegalStateException ArithmeticException",
        "int version(int) IndexOutOfBoundsException",
    };
    private static final String[] BARRED = {"import ", "->", "::", "finally", "synchronized", "assert ",
        "System.out", "hashCode", "Random", "currentTime", "nanoTime", "Thread"};

    private static int wrong;

    private static void need(boolean holds, String what) {
        if (!holds) {
            wrong++;
            System.out.println("not so: " + what);
        }
    }

    private static String written(Method m) {
        StringBuilder s = new StringBuilder(m.getReturnType().getSimpleName() + " " + m.getName() + "(");
        for (int i = 0; i < m.getParameterCount(); i++) {
            s.append(i == 0 ? "" : ",").append(m.getParameterTypes()[i].getSimpleName());
        }
        s.append(")");
        for (Class<?> e : m.getExceptionTypes()) {
            s.append(" ").append(e.getSimpleName());
        }
        return s.toString();
    }

    private static void checkMethods(Class<?> c) {
        Set<String> face = new TreeSet<>(Arrays.asList(FACE));
        Set<String> names = new TreeSet<>();
        Set<String> found = new TreeSet<>();
        for (Method m : c.getDeclaredMethods()) {
            if (!Modifier.isPrivate(m.getModifiers())) {
                found.add(written(m));
                names.add(m.getName());
                need(Modifier.isPublic(m.getModifiers()) && !Modifier.isStatic(m.getModifiers()), m + " is public");
            }
        }
        need(found.equals(face), "the methods are the face's, but " + found);
        for (Method m : c.getDeclaredMethods()) {
            need(!Modifier.isPrivate(m.getModifiers()) || !names.contains(m.getName()), m + " has its own name");
        }
    }

    private static void checkFields(Class<?> c) {
        for (Field f : c.getDeclaredFields()) {
            int is = f.getModifiers();
            need(!Modifier.isStatic(is) || Modifier.isFinal(is), f + " is final");
            if (c == LensPaths.class) {
                need(Modifier.isPrivate(is) || f.getName().equals("NONE"), f + " is private");
            }
        }
    }

    private static void checkClasses() {
        Class<?>[] inside = LensPaths.class.getDeclaredClasses();
        need(inside.length <= 12, "few classes");
        for (Class<?> c : inside) {
            int is = c.getModifiers();
            need(Modifier.isStatic(is) && !Modifier.isPublic(is) && !Modifier.isProtected(is), c + " is static");
            need(c.getDeclaredFields().length <= 30, c + " has few fields");
            checkFields(c);
            for (Method m : c.getDeclaredMethods()) {
                need(m.getParameterCount() <= 7, m + " has few parameters");
            }
        }
    }

    private static void checkText() throws IOException {
        String text = Files.readString(Path.of("src/main/java/LensPaths.java"));
        for (String word : BARRED) {
            need(!text.contains(word), "the file is without " + word);
        }
        need(text.chars().allMatch(ch -> ch < 128), "the file is plain text");
    }

    public static void main(String[] args) throws IOException {
        Class<?> c = LensPaths.class;
        need(Modifier.isPublic(c.getModifiers()) && Modifier.isFinal(c.getModifiers()), "public and final");
        Constructor<?>[] made = c.getDeclaredConstructors();
        need(made.length == 1 && made[0].getParameterCount() == 0 && Modifier.isPublic(made[0].getModifiers()),
                "one constructor");
        checkMethods(c);
        checkFields(c);
        checkClasses();
        checkText();
        System.out.println(wrong == 0 ? "the face is as written" : wrong + " things are not so");
        if (wrong != 0) {
            System.exit(1);
        }
    }
}
