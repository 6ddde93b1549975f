import java.io.IOException;
import java.lang.reflect.Constructor;
import java.lang.reflect.Field;
import java.lang.reflect.Method;
import java.lang.reflect.Modifier;
import java.nio.file.Files;
import java.nio.file.Path;
import java.util.Arrays;
import java.util.Set;
import java.util.TreeSet;

/** The public face of the document, and rules of ../shared/LANGUAGE.md that can be seen from outside of the methods. */
public final class FaceTest {
    private static final String[] FACE = {
        "int feed(long, int)", "int job()", "int fault()", "long operator(int, int)",
        "int give(int, int, long, long, long, long)", "boolean close(int)", "int start(int, int, long)", "int turn(int)",
        "int mark()", "int fail()", "int rescale(int)", "void crash(int)", "int reopen()", "int visible(int)",
        "long row(int, int, int)", "int lineage(int, int, int)", "boolean onePass()", "long task(int, int)",
        "long channel(int, int)", "int records(int, long)", "int told(int)", "void clear()"};
    private static final String[] REFUSED = {
        "->", "::", "finally", "synchronized", "assert ", "Exact(", "getMessage", "hashCode", "equals(", "toString",
        "RuntimeException", "ArrayIndexOutOfBounds", "NullPointer", "ClassCast", "NegativeArraySize", "ArrayStore",
        "double ", "float ", "System.out", "nanoTime", "Random", "HashMap"};

    public static void main(String[] args) throws IOException {
        Check.same("public final", StreamHouse.class.getModifiers(), Modifier.PUBLIC | Modifier.FINAL);
        Set<String> own = new TreeSet<>();
        for (Method m : StreamHouse.class.getDeclaredMethods()) {
            if (!Modifier.isPrivate(m.getModifiers())) {
                own.add(m.getReturnType() + " " + m.getName() + "(" + names(m.getParameterTypes()) + ")");
                Check.same("public " + m.getName(), m.getModifiers(), Modifier.PUBLIC);
            }
        }
        Check.same("methods", own.toString(), new TreeSet<>(Arrays.asList(FACE)).toString());
        for (Field f : StreamHouse.class.getDeclaredFields()) {
            if (!Modifier.isPrivate(f.getModifiers())) {
                Check.same("field", f.toString(), "public static final int StreamHouse.NONE");
            }
        }
        for (Constructor<?> c : StreamHouse.class.getDeclaredConstructors()) {
            Check.same("constructor", c.toString(), "public StreamHouse()");
        }
        classesInside(StreamHouse.class.getDeclaredClasses());
        String source = Files.readString(Path.of("src/main/java/StreamHouse.java"));
        for (String word : REFUSED) {
            Check.same("uses of " + word, source.indexOf(word), -1);
        }
        Check.same("one import", source.split("\nimport |^import ").length, 2);
        Check.end();
    }

    private static String names(Class<?>[] types) {
        StringBuilder all = new StringBuilder();
        for (Class<?> t : types) {
            all.append(all.length() == 0 ? "" : ", ").append(t);
        }
        return all.toString();
    }

    private static void classesInside(Class<?>[] inside) {
        Set<String> face = new TreeSet<>();
        for (String f : FACE) {
            face.add(f.replaceAll("^\\w+ |\\(.*", ""));
        }
        Check.same("classes inside", inside.length <= 12 ? 1 : 0, 1);
        for (Class<?> c : inside) {
            Check.same(c + " is static", Modifier.isStatic(c.getModifiers()) && !Modifier.isPublic(c.getModifiers()) ? 1 : 0, 1);
            int fields = 0;
            for (Field f : c.getDeclaredFields()) {
                boolean isStatic = Modifier.isStatic(f.getModifiers());
                fields += isStatic ? 0 : 1;
                Check.same(f + " is final if static", !isStatic || Modifier.isFinal(f.getModifiers()) ? 1 : 0, 1);
            }
            Check.same("fields of " + c, fields <= 20 ? 1 : 0, 1);
            for (Method m : c.getDeclaredMethods()) {
                Check.same(m + " bears no name of the face", face.contains(m.getName()) ? 1 : 0, 0);
                Check.same(m + " has few parameters", m.getParameterCount() <= 7 ? 1 : 0, 1);
            }
        }
    }
}
