import java.io.IOException;
import java.lang.reflect.Constructor;
import java.lang.reflect.Field;
import java.lang.reflect.Method;
import java.lang.reflect.Modifier;
import java.nio.file.Files;
import java.nio.file.Path;
import java.util.Set;
import java.util.TreeSet;

/** The public face is the document's and no more; the source keeps off what LANGUAGE.md forbids. */
public final class FaceTest {
    private static final String[] FACE = {
        "int letter 1", "int yard 0", "int grave 2", "int mourner 2", "int goes 2", "int leaves 1",
        "int hears 1", "int grieves 2", "int hardens 2", "int turn 3", "int days 1",
        "int graveThen 3", "int griefThen 2", "int payThen 1", "int deep 2", "int first 1",
        "int seat 1", "int fewest 3", "int tell 1", "int send 2", "int bring 2", "int change 1",
        "int onion 2", "int tears 0", "int alone 1", "int level 0", "int two 3", "long share 2",
        "long winter 5", "long mean 1", "int whoWept 1", "int whatIs 2", "int row 1", "int judge 0",
        "int clear 0", "int lots 3", "int image 0", "int on 0", "int count 1",
    };

    private static final String[] FORBIDDEN = {
        "throw", "try", "catch", "synchronized", "assert", "import", "package", "protected",
        "instanceof", "hashCode", "toString", "Exact", "System", "->", "::", "String",
    };

    public static void main(String[] args) throws IOException {
        members();
        source();
        Check.finish();
    }

    private static void members() {
        Class<?> face = GravediggerPaid.class;
        Check.due("class", face.getModifiers(), Modifier.PUBLIC | Modifier.FINAL);
        Set<String> found = new TreeSet<>();
        for (Method m : face.getDeclaredMethods()) {
            if (!Modifier.isPrivate(m.getModifiers())) {
                Check.due(m.getName() + " is public and no more", m.getModifiers(), Modifier.PUBLIC);
                found.add(m.getReturnType() + " " + m.getName() + " " + m.getParameterCount());
                for (Class<?> type : m.getParameterTypes()) {
                    Check.holds(m.getName() + " takes ints", type == int.class);
                }
            }
        }
        Check.holds("face " + found, found.equals(new TreeSet<>(Set.of(FACE))));
        for (Field f : face.getDeclaredFields()) {
            Check.holds("field " + f.getName() + " is private", Modifier.isPrivate(f.getModifiers()));
        }
        Check.due("constructors", face.getDeclaredConstructors().length, 1);
        for (Constructor<?> c : face.getDeclaredConstructors()) {
            Check.due("constructor", c.getModifiers(), Modifier.PUBLIC);
            Check.due("of nothing", c.getParameterCount(), 0);
        }
        for (Class<?> inside : face.getDeclaredClasses()) {
            Check.holds(inside + " is static", Modifier.isStatic(inside.getModifiers()));
            for (Method m : inside.getDeclaredMethods()) {
                Check.holds(m + " bears no public name",
                    found.stream().noneMatch(f -> f.split(" ")[1].equals(m.getName())));
            }
        }
    }

    private static void source() throws IOException {
        String text = Files.readString(Path.of("src/main/java/GravediggerPaid.java"));
        String code = text.replaceAll("(?s)/\\*.*?\\*/", "").replaceAll("//.*", "");
        for (String word : FORBIDDEN) {
            String pattern = Character.isLetter(word.charAt(0)) ? "(?s).*\\b" + word + "\\b.*" : null;
            boolean there = pattern == null ? code.contains(word) : code.matches(pattern);
            Check.holds("no " + word, !there);
        }
        Check.holds("plain letters", text.chars().allMatch(c -> c == '\n' || c >= 32 && c < 127));
    }
}
