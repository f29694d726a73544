import java.io.IOException;
import java.lang.reflect.Executable;
import java.lang.reflect.Field;
import java.lang.reflect.Method;
import java.lang.reflect.Modifier;
import java.nio.file.Files;
import java.nio.file.Path;
import java.util.ArrayList;
import java.util.Arrays;
import java.util.List;
import java.util.TreeSet;
import java.util.regex.Pattern;

/** The public face, and what of LANGUAGE.md can be seen from the classes and the source. */
public final class FaceTest {
    private static final Due due = new Due();
    /** Each call with the number of its ints; long ones with an L behind. */
    private static final String FACE = "hedge1 blade2 thumbs2 blow2 grows3 learns1 comes2 wets2 span4 sounds5 pitch4 "
        + "tries5 where4 whoCan0 which2 wrong5 next5 halves3 ways2 tune3 lasts3 bestForce3 clash3 heard2 nearer4L "
        + "often2 answer3L telling4 odds4L enough3 heap3 forged2 remainder3 judge4 walks3 image0 restore0 count1 "
        + "keep4 row3 put3 element2L copy5 cost1 toss1";

    public static void main(String[] args) throws IOException {
        face();
        members();
        nested();
        source();
        due.end();
    }

    private static void face() {
        List<String> found = new ArrayList<>();
        for (Method m : BladeBetweenThumbs.class.getDeclaredMethods()) {
            if (Modifier.isPublic(m.getModifiers())) {
                boolean ints = Arrays.stream(m.getParameterTypes()).allMatch(type -> type == int.class);
                due.is(m.getName() + " takes ints alone", ints ? 1 : 0, 1);
                due.is(m.getName() + " is static", Modifier.isStatic(m.getModifiers()) ? 1 : 0, 0);
                found.add(m.getName() + m.getParameterCount() + (m.getReturnType() == long.class ? "L" : ""));
            }
        }
        due.is("calls of the face", found.size(), 45);
        String missing = new TreeSet<>(Arrays.asList(FACE.split(" "))).toString();
        due.is(missing + " and " + new TreeSet<>(found), missing.equals(new TreeSet<>(found).toString()) ? 1 : 0, 1);
        due.is("constructors", BladeBetweenThumbs.class.getConstructors().length, 1);
        due.is("public and final", BladeBetweenThumbs.class.getModifiers(), Modifier.PUBLIC | Modifier.FINAL);
    }

    private static void members() {
        TreeSet<String> open = new TreeSet<>();
        TreeSet<String> hidden = new TreeSet<>();
        for (Method m : BladeBetweenThumbs.class.getDeclaredMethods()) {
            (Modifier.isPublic(m.getModifiers()) ? open : hidden).add(m.getName());
            boolean said = Modifier.isPublic(m.getModifiers()) || Modifier.isPrivate(m.getModifiers());
            due.is(m.getName() + " is public or private", said ? 1 : 0, 1);
        }
        hidden.retainAll(open);
        due.is("private methods with a public one's name: " + hidden, hidden.size(), 0);
        for (Field f : BladeBetweenThumbs.class.getDeclaredFields()) {
            due.is(f.getName() + " is private", Modifier.isPrivate(f.getModifiers()) ? 1 : 0, 1);
        }
    }

    private static void nested() {
        List<Class<?>> all = new ArrayList<>(Arrays.asList(BladeBetweenThumbs.class.getDeclaredClasses()));
        for (Class<?> c : all) {
            due.is(c.getSimpleName() + " is static", Modifier.isStatic(c.getModifiers()) ? 1 : 0, 1);
        }
        all.add(BladeBetweenThumbs.class);
        due.is("classes, twelve at most", Math.max(12, all.size()), 12);
        for (Class<?> c : all) {
            long fields = Arrays.stream(c.getDeclaredFields()).filter(f -> !Modifier.isStatic(f.getModifiers())).count();
            due.is(c.getSimpleName() + ": fields, twenty at most", Math.max(20, fields), 20);
            for (Field f : c.getDeclaredFields()) {
                boolean loose = Modifier.isStatic(f.getModifiers()) && !Modifier.isFinal(f.getModifiers());
                due.is(f.getName() + " is static and not final", loose ? 1 : 0, 0);
            }
            List<Executable> bodies = new ArrayList<>(Arrays.asList(c.getDeclaredMethods()));
            bodies.addAll(Arrays.asList(c.getDeclaredConstructors()));
            for (Executable e : bodies) {
                due.is(e + ": parameters, seven at most", Math.max(7, e.getParameterCount()), 7);
            }
        }
    }

    private static void source() throws IOException {
        String source = Files.readString(Path.of("src/main/java/BladeBetweenThumbs.java"));
        String code = source.replaceAll("(?s)/\\*.*?\\*/", "").replaceAll("//[^\n]*", "");
        String[] ruledOut = {"->", "::", "\\bfinally\\b", "\\bassert\\b", "\\bsynchronized\\b", "\\bpackage\\b",
            "\\bprotected\\b", "Exact\\b", "@", "\\bdouble\\b", "\\bfloat\\b", "getMessage", "\\bvar\\b", "[^\\x00-\\x7f]",
            "import (?!java\\.util\\.Arrays;)", "catch \\((Runtime)?Exception\\b", "ArrayIndex", "NullPointer",
            "catch \\((ClassCast|ArrayStore|NegativeArraySize|Arithmetic|IndexOutOfBounds)", "\\bThrowable\\b"};
        for (String what : ruledOut) {
            due.is("the source has " + what, Pattern.compile(what).matcher(code).find() ? 1 : 0, 0);
        }
    }
}
